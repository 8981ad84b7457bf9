/-- the static row of the rules' usual numbers: nobody writes it -/
def zRD : Nat → Int32 := fun j => if j = 0 then 40 else if j = 1 then 5 else 3
def zF (g0 : Nat) (A : Nat → Prop) (U : State) : Prop := va_Z "NinePortraits$CourtReader" "RULE_DEFAULTS" "[I" (.ref g0) A U U.heap ∧ va_T .int g0 3 (fun j => .int (zRD j)) A U U.heap
theorem zF_call {g0 : Nat} {A B : Nat → Prop} {s : State} {H : Heap} {locs : List Loc} (hF : zF g0 A s) (hS : va_S A s.heap H locs) (hB : ∀ q, B q → A q) : ∀ U : State, U.heap = H → s.WarmedH U.vm → zF g0 B U := by
  intro U hU hW
  refine ⟨?_, ?_⟩
  · rw [hU]
    exact ((hF.1.kept hS.2.1).narrow hB).moved hW.alike
  · rw [hU]
    exact ((hF.2.kept hS.2.1).narrow hB).moved hW.alike
def zPF (D : va_G) (ts : List (ClassId × FieldType)) (av : List Value) (sz : Nat) (ws : va_W) (g0 : Nat) : Array Value → State → Prop := fun v U => zP D ts av sz ws v U ∧ zF g0 (va_A ws sz) U
theorem zPFb {D : va_G} {ts : List (ClassId × FieldType)} {av : List Value} {sz g0 : Nat} {ws : va_W} : FrameBlind (zPF D ts av sz ws g0) := fun a U g mk q => ⟨zPb a U g mk q.1, q.2.1.moved (Vm.Alike.refl U.vm), q.2.2.moved (Vm.Alike.refl U.vm)⟩
theorem zPFV {D : va_G} {ts : List (ClassId × FieldType)} {As : List Value} {ws : va_W} {s : State} {H : Heap} {A : Nat → Prop} {C : String} {b : Addr} {g0 : Nat} (hP : va_P D vwCl ws H) (hK : va_K D vwCl ts s) (hD : va_D A ws) (hr : ∃ cell : Cell, H[b]? = some cell ∧ cell.vm.isStatics = false ∧ s.vm.findClass C = some cell.cls) (hF : ∀ U : State, U.heap = H → s.WarmedH U.vm → zF g0 (va_A ws H.size) U) : PreV s H C b (zPF D ts (.ref b :: As) H.size ws g0) As :=
  ⟨zPFb, hr, fun U hU hW => ⟨(zPV hP hK hD hr).2.2 U hU hW, hF U hU hW⟩⟩
/-- a copy out of a static row of ints into a row of the world -/
theorem zcopyT {p : Program} {l : Launch} {e : Env} {R : Room} {s : State} {m : MethodId} {args : Array Value} {below : List Frame} {meth : Method} {c : Code} {H : Heap} {locs : List Loc} {cells slots : Nat} {Q : State → Prop} {cc : ByteArray} {pc : Nat} {ls : Array Slot} {rest : List Value} {D : va_G} {cl : List vw_C} {A : Nat → Prop} {a : Nat} {tys : List (ClassId × FieldType)} {ws : va_W}
    (hexec : p.tables.exec = Jvm.exec) (hb : c.code = cc) (hml : c.maxLocals = ls.size) {own : String} {index : Nat} (hown : s.vm.findClass own = some m.cls) (hlink : (Cond.methodLink own index arraycopyName).before args s = true) (hnat : (Cond.native arraycopyName).before args s = true) (hstat : (Cond.static arraycopyName).before args s = true) (hini : (Cond.initialized "java/lang/System").before args s = true)
    (hK : va_K D cl tys s) (hP : va_P D cl ws H) (hD : va_D A ws) (hS : va_S A s.heap H locs) (q1 t1 : Nat) {a0 : Nat} {c1 : ClassId} {n1 N : Nat} {f g : Nat → Int32} (hX : va_T .int a0 N (fun j => .int (f j)) A s s.heap) (ha1 : ws[q1]? = some (a, .inl (c1, n1, .inl g))) (ht1 : tys[t1]? = some (c1, .int))
    {sp dp n : Int32} (h1 : ¬ sp < 0) (h2 : ¬ dp < 0) (h3 : ¬ n < 0) (h4 : sp.toNatClampNeg + n.toNatClampNeg ≤ N) (h5 : dp.toNatClampNeg + n.toNatClampNeg ≤ n1)
    (hframes : 1 ≤ R.frames) (hlocals : (rest.map fun v => v.category).sum + (nativeFrameWords "java/lang/System" "arraycopy" 5 + 11) ≤ R.locals) (hdg : decode cc pc = .ok (.invokestatic index, 3))
    (kk : ∀ (H1 : Heap) (locs1 : List Loc), va_P D cl (ws.set q1 (a, .inl (c1, n1, .inl (va_cpy f g sp.toNatClampNeg dp.toNatClampNeg n.toNatClampNeg)))) H1 → va_D A (ws.set q1 (a, .inl (c1, n1, .inl (va_cpy f g sp.toNatClampNeg dp.toNatClampNeg n.toNatClampNeg)))) → va_S A s.heap H1 locs1 → W p l e R s m args below meth c H1 locs1 cells slots Q (F0 m (pc + 3) ls rest)) : W p l e R s m args below meth c H locs cells slots Q (F0 m pc ls (.int n :: .int dp :: .ref a :: .int sp :: .ref a0 :: rest)) := by
  have nn : ∀ z : Int32, ¬ z < 0 → z.toInt = (z.toNatClampNeg : Int) := by
    intro z hz
    have hz0 : (0 : Int) ≤ z.toInt := by
      have := Int32.not_lt.mp hz
      simpa using Int32.le_iff_toInt_le.mp this
    show z.toInt = ((z.toInt.toNat : Nat) : Int)
    omega
  intro T hT X
  obtain ⟨cs, x1, x2, x3, x4, -, x6, x7⟩ := hX
  have hc0 : H[a0]? = some cs := by rw [hS.2.1 a0 (Array.getElem?_eq_some_iff.mp x1).1 x7]; exact x1
  have hc1 : H[a]? = some (vp_cell c1 (n1, .inl g)) := hP q1 _ ha1
  obtain ⟨xs, k0, hk0, cm0, hkk0⟩ := x2
  obtain ⟨-, k1, hk1, cm1, hkk1⟩ := (hK.2 t1 _ ht1).1 n1 (fun j => .int (g j))
  have hgd : ∀ i : Nat, i < n.toNatClampNeg → cs.slots.getD (sp.toNatClampNeg + i) .null = .int (f (sp.toNatClampNeg + i)) := fun i hi => by
    rw [Array.getD_eq_getD_getElem?, x6 _ (by omega)]
    rfl
  obtain ⟨vm', X', step⟩ := X.arraycopy hexec hown hlink hnat hstat hini (src := a0) (dst := a) (cs := cs) (cd := vp_cell c1 (n1, .inl g)) (srcPos := sp) (destPos := dp) (n := n) (by rw [hT]; exact hc0) (by rw [hT]; exact hc1)
    xs (fun _ h => by cases h) x3 (fun h => by cases h) hk0 hk1 hkk0 hkk1 (by simp [refKind]) h1 h2 h3
    (by rw [nn sp h1, nn n h3]; omega)
    (by rw [nn dp h2, nn n h3]; show ¬ _ > ((arrV c1 n1 (fun j => .int (g j))).slots.size : Int); rw [arrV_size]; omega)
    (fun vm₁ _ i hi => by
      refine ⟨?_, ?_⟩
      · rw [hgd i hi]
        rfl
      · rw [hgd i hi]
        exact trivial)
    (g := F0 m pc ls (.int n :: .int dp :: .ref a :: .int sp :: .ref a0 :: rest)) rfl (by rw [hml]) (rest := rest) rfl (by rw [hb]; exact hdg) hframes (by show 2 * 0 + _ + _ ≤ _; omega)
  have es : cs.stretch sp.toNatClampNeg n.toNatClampNeg = (arrV c1 N (fun j => .int (f j))).stretch sp.toNatClampNeg n.toNatClampNeg := by
    unfold Cell.stretch
    apply List.map_congr_left
    intro i hi
    have hi' := List.mem_range.mp hi
    rw [hgd i hi', Array.getD_eq_getD_getElem?, arrV_read _ _ (by omega)]
    rfl
  have e1 : copied cs (vp_cell c1 (n1, .inl g)) sp dp n = vp_cell c1 (n1, .inl (va_cpy f g sp.toNatClampNeg dp.toNatClampNeg n.toNatClampNeg)) := by
    have e2 := va_copied (n1 := n1) (dp := dp.toNatClampNeg) (fun z : Int32 => Value.int z) c1 c1 f g h4
    rw [← es] at e2
    exact e2
  rw [e1] at X' step
  have hl : a < H.size := (Array.getElem?_eq_some_iff.mp hc1).1
  have hheap : ((T.setVm vm').setCell a (vp_cell c1 (n1, .inl (va_cpy f g sp.toNatClampNeg dp.toNatClampNeg n.toNatClampNeg)))).heap = H.setIfInBounds a (vp_cell c1 (n1, .inl (va_cpy f g sp.toNatClampNeg dp.toNatClampNeg n.toNatClampNeg))) := by rw [← hT]; rfl
  have oq : ∀ q : Nat, q ≠ a → (H.setIfInBounds a (vp_cell c1 (n1, .inl (va_cpy f g sp.toNatClampNeg dp.toNatClampNeg n.toNatClampNeg))))[q]? = H[q]? := fun q hq => by simp [Array.getElem?_setIfInBounds, Ne.symm hq]
  obtain ⟨t, a1, b1⟩ := kk _ _ (hP.set hD ha1 (show (H.setIfInBounds a _)[a]? = some _ by simp [Array.getElem?_setIfInBounds, hl]) oq) (hD.set ha1) ⟨by simp; exact hS.1, fun q g1 g2 => by
      rw [oq q (fun e => g2 (by rw [e]; exact hD.2 q1 _ ha1))]
      exact hS.2.1 q g1 g2, fun q hq => by
      rcases List.mem_append.mp hq with h | h
      · exact hS.2.2 q h
      · obtain ⟨z, -, hz⟩ := List.mem_map.mp h
        rw [← hz]
        exact hD.2 q1 _ ha1⟩ _ hheap X'
  exact ⟨t, step t a1, b1⟩
set_option maxHeartbeats 4000000 in
set_option maxRecDepth 100000 in
theorem c_X9_peek (l : Launch) (dC : Nat → ClassId) (dI : Nat → Nat → Nat) (cI cJ : ClassId) (h0 h1 : Nat) (sz : Nat) : Met l yX9_peek (.code yX9_peek cX9_peek 1 (some .int) :: wA) ({ frames := 0, cells := 0, slots := 0, locals := 0 }) (zP (dC, dI) [(cI, .int), (cJ, .long)] [.ref h0] sz [(h0, .inr (9, [.ref h1, .int 0, .int 0]))]) (va_Qi (fun (r : Int32) (_ : Unit) => r = 0) (fun (_ : Unit) (_ : State) => True) (va_A [] sz)) 0 0 (va_A [] sz) := by
  refine Met.ofW (cc := cX9_peek) (maxL := 1) (ret := (some .int)) (by decide) rfl ?_
  intro p e s m args below meth c s₁ B hml hv
  obtain ⟨rfl, hsz, hP, hK, hT⟩ := hv
  have hx := B.exec
  have hb := B.bytes
  have hr := B.returns
  have hts : ∀ w ∈ wA, w.before _ s = true := fun w h => atoms_spec (ws := .code yX9_peek cX9_peek 1 (some .int) :: wA) B.pre w (List.mem_cons_of_mem _ h)
  have hown : s.vm.findClass RX9 = some m.cls := findClass_of_methodNamed B.named
  have hlocks := B.notSynchronized
  subst hsz
  have hD : va_D (va_A [] s.heap.size) [] := zD0
  generalize hAe : va_A [] s.heap.size = A at hD ⊢
  have hA : ∀ q : Nat, s.heap.size ≤ q → A q := fun q h => by rw [← hAe]; exact Or.inr h
  have hl := lv_entry ([.ref h0]) (n := 1) (Nat.le_of_ble_eq_true rfl)
  rw [lg_entry_eq]
  generalize (lg_sl ([.ref h0]) ++ List.replicate (1 - (lg_sl ([.ref h0])).length) Slot.unset).toArray = ls at hl ⊢
  have hl : lv_has ls 1 [(0, .ref h0)] := hl
  refine zstart (fun H hH => ?_)
  rw [← hH] at hP
  have hS : va_S A s.heap H [] := by rw [hH]; exact va_S.rf
  refine lv_aload_n hx hb dX9_peek_0 rfl (lv_at hl 0 rfl) ?_
  refine va_get (D := (dC, dI)) (ci := 9) (v := .int 0) (C := RX9) (T := TX9) (N := 3) hx hb hts iX9 hown hK hP 0 rfl rfl 2 (by decide) (hts _ qw139) (fun _ h9 => h9) rfl dX9_peek_1 ?_
  refine lv_aload_n hx hb dX9_peek_4 rfl (lv_at hl 0 rfl) ?_
  refine va_get (D := (dC, dI)) (ci := 9) (v := .int 0) (C := RX9) (T := TX9) (N := 3) hx hb hts iX9 hown hK hP 0 rfl rfl 1 (by decide) (hts _ qw134) (fun _ h9 => h9) rfl dX9_peek_5 ?_
  refine lv_icmp_ge (tgt := 38) hx hb dX9_peek_8 (by decide) (fun _ => ?_) (fun c => absurd (by decide) c)
  refine lv_aload_n hx hb dX9_peek_38 rfl (lv_at hl 0 rfl) ?_
  refine va_get (D := (dC, dI)) (ci := 9) (v := .int 0) (C := RX9) (T := TX9) (N := 3) hx hb hts iX9 hown hK hP 0 rfl rfl 2 (by decide) (hts _ qw139) (fun _ h9 => h9) rfl dX9_peek_39 ?_
  refine lv_aload_n hx hb dX9_peek_42 rfl (lv_at hl 0 rfl) ?_
  refine va_get (D := (dC, dI)) (ci := 9) (v := .int 0) (C := RX9) (T := TX9) (N := 3) hx hb hts iX9 hown hK hP 0 rfl rfl 1 (by decide) (hts _ qw134) (fun _ h9 => h9) rfl dX9_peek_43 ?_
  refine lv_icmp_ge (tgt := 61) hx hb dX9_peek_46 (by decide) (fun _ => ?_) (fun c => absurd (by decide) c)
  refine lv_iconst (v := 0) hx hb dX9_peek_61 (by decide) ?_
  exact W.iret (v := 0) hx hb hr (fun t ht hW => ⟨⟨0, (), rfl, rfl, trivial⟩, hS.F ht⟩) hS.2.2 dX9_peek_62
set_option maxHeartbeats 4000000 in
set_option maxRecDepth 100000 in
theorem c_X9_takes (l : Launch) (dC : Nat → ClassId) (dI : Nat → Nat → Nat) (cI cJ : ClassId) (h0 h1 : Nat) (sz : Nat) : Met l yX9_takes (.code yX9_takes cX9_takes 2 (some .boolean) :: wA) ({ frames := 1, cells := 0, slots := 0, locals := 20 }) (zP (dC, dI) [(cI, .int), (cJ, .long)] [.ref h0, .int 121] sz [(h0, .inr (9, [.ref h1, .int 0, .int 0]))]) (va_Qi (fun (r : Int32) (_ : Unit) => r = 0) (fun (_ : Unit) (_ : State) => True) (va_A [] sz)) 0 0 (va_A [] sz) := by
  refine Met.ofW (cc := cX9_takes) (maxL := 2) (ret := (some .boolean)) (by decide) rfl ?_
  intro p e s m args below meth c s₁ B hml hv
  obtain ⟨rfl, hsz, hP, hK, hT⟩ := hv
  have hx := B.exec
  have hb := B.bytes
  have hr := B.returns
  have hts : ∀ w ∈ wA, w.before _ s = true := fun w h => atoms_spec (ws := .code yX9_takes cX9_takes 2 (some .boolean) :: wA) B.pre w (List.mem_cons_of_mem _ h)
  have hown : s.vm.findClass RX9 = some m.cls := findClass_of_methodNamed B.named
  have hlocks := B.notSynchronized
  subst hsz
  have hD : va_D (va_A [] s.heap.size) [] := zD0
  generalize hAe : va_A [] s.heap.size = A at hD ⊢
  have hA : ∀ q : Nat, s.heap.size ≤ q → A q := fun q h => by rw [← hAe]; exact Or.inr h
  have hl := lv_entry ([.ref h0, .int 121]) (n := 2) (Nat.le_of_ble_eq_true rfl)
  rw [lg_entry_eq]
  generalize (lg_sl ([.ref h0, .int 121]) ++ List.replicate (2 - (lg_sl ([.ref h0, .int 121])).length) Slot.unset).toArray = ls at hl ⊢
  have hl : lv_has ls 2 [(0, .ref h0), (1, .int 121)] := hl
  refine zstart (fun H hH => ?_)
  rw [← hH] at hP
  have hS : va_S A s.heap H [] := by rw [hH]; exact va_S.rf
  refine lv_aload_n hx hb dX9_takes_0 rfl (lv_at hl 0 rfl) ?_
  have hPc := hP.sub (ws' := [(h0, .inr (9, [.ref h1, .int 0, .int 0]))]) [0] rfl
  have hDc := hT.sub (ws' := [(h0, .inr (9, [.ref h1, .int 0, .int 0]))]) [0] (by decide) rfl
  have hFc := zfr hS hA
  refine va_calli (va_runV (As := []) (rest := []) ⟨hx, hb, hml, hown, hts⟩ (c_X9_peek l dC dI cI cJ h0 h1 H.size) (cwV 0 hts (zgV qw475 qw438 qw439 qw99 qw440) rfl rfl rfl hd_X9_peek ⟨Nat.le_of_ble_eq_true rfl, Nat.le_of_ble_eq_true rfl⟩) (zPV hPc hK hDc (va_recv hK hP (ci := 9) (q0 := 0) rfl rfl)) rfl rfl hl.1 rfl (lv_room (Nat.le_of_ble_eq_true rfl)) dX9_takes_1 ⟨Nat.le_of_ble_eq_true rfl, Nat.le_of_ble_eq_true rfl⟩) hS (fun q _ h => hFc q h) hFc (fun r_1 u t H locs ht hvm hw hB hz1 hk1 hS => ?_)
  have hP := zkeep hP hk1
  have hw : r_1 = 0 := hw
  subst hw
  refine lv_iload_n hx hb dX9_takes_4 rfl (lv_at hl 1 rfl) ?_
  refine lv_icmp_eq (tgt := 10) hx hb dX9_takes_5 (by decide) (fun c => absurd c (by decide)) (fun _ => ?_)
  refine lv_iconst (v := 0) hx hb dX9_takes_8 (by decide) ?_
  exact W.zret (v := 0) (ty := .boolean) hx hb hr rfl (fun t ht hW => ⟨⟨0, (), rfl, rfl, trivial⟩, hS.F ht⟩) hS.2.2 dX9_takes_9
set_option maxHeartbeats 4000000 in
set_option maxRecDepth 100000 in
theorem c_X5_clause (l : Launch) (dC : Nat → ClassId) (dI : Nat → Nat → Nat) (cI cJ : ClassId) (h0 h1 h2 h3 : Nat) (sz : Nat) : Met l yX5_clause (.code yX5_clause cX5_clause 3 (some .boolean) :: wA) ({ frames := 2, cells := 0, slots := 0, locals := 41 }) (zP (dC, dI) [(cI, .int), (cJ, .long)] [.ref h0] sz [(h1, .inr (9, [.ref h2, .int 0, .int 0])), (h0, .inr (5, [.ref h3, .int 0, .ref h1]))]) (va_Qi (fun (r : Int32) (_ : Unit) => r = 0) (fun (_ : Unit) (_ : State) => True) (va_A [] sz)) 0 0 (va_A [] sz) := by
  refine Met.ofW (cc := cX5_clause) (maxL := 3) (ret := (some .boolean)) (by decide) rfl ?_
  intro p e s m args below meth c s₁ B hml hv
  obtain ⟨rfl, hsz, hP, hK, hT⟩ := hv
  have hx := B.exec
  have hb := B.bytes
  have hr := B.returns
  have hts : ∀ w ∈ wA, w.before _ s = true := fun w h => atoms_spec (ws := .code yX5_clause cX5_clause 3 (some .boolean) :: wA) B.pre w (List.mem_cons_of_mem _ h)
  have hown : s.vm.findClass RX5 = some m.cls := findClass_of_methodNamed B.named
  have hlocks := B.notSynchronized
  subst hsz
  have hD : va_D (va_A [] s.heap.size) [] := zD0
  generalize hAe : va_A [] s.heap.size = A at hD ⊢
  have hA : ∀ q : Nat, s.heap.size ≤ q → A q := fun q h => by rw [← hAe]; exact Or.inr h
  have hl := lv_entry ([.ref h0]) (n := 3) (Nat.le_of_ble_eq_true rfl)
  rw [lg_entry_eq]
  generalize (lg_sl ([.ref h0]) ++ List.replicate (3 - (lg_sl ([.ref h0])).length) Slot.unset).toArray = ls at hl ⊢
  have hl : lv_has ls 3 [(0, .ref h0)] := hl
  refine zstart (fun H hH => ?_)
  rw [← hH] at hP
  have hS : va_S A s.heap H [] := by rw [hH]; exact va_S.rf
  refine lv_aload_n hx hb dX5_clause_0 rfl (lv_at hl 0 rfl) ?_
  refine va_get (D := (dC, dI)) (ci := 5) (v := .ref h1) (C := RX5) (T := TX5) (N := 3) hx hb hts iX5 hown hK hP 1 rfl rfl 2 (by decide) (hts _ qw172) (fun _ h9 => h9) rfl dX5_clause_1 ?_
  refine lv_bipush (v := 121) hx hb dX5_clause_4 (by decide) ?_
  have hPc := hP.sub (ws' := [(h1, .inr (9, [.ref h2, .int 0, .int 0]))]) [0] rfl
  have hDc := hT.sub (ws' := [(h1, .inr (9, [.ref h2, .int 0, .int 0]))]) [0] (by decide) rfl
  have hFc := zfr hS hA
  refine va_calli (va_runV (As := [.int 121]) (rest := []) ⟨hx, hb, hml, hown, hts⟩ (c_X9_takes l dC dI cI cJ h1 h2 H.size) (cwV 1 hts (zgV qw484 qw472 qw473 qw99 qw474) rfl rfl rfl hd_X9_takes ⟨Nat.le_of_ble_eq_true rfl, Nat.le_of_ble_eq_true rfl⟩) (zPV hPc hK hDc (va_recv hK hP (ci := 9) (q0 := 0) rfl rfl)) rfl rfl hl.1 rfl (lv_room (Nat.le_of_ble_eq_true rfl)) dX5_clause_6 ⟨Nat.le_of_ble_eq_true rfl, Nat.le_of_ble_eq_true rfl⟩) hS (fun q _ h => hFc q h) hFc (fun r_1 u t H locs ht hvm hw hB hz1 hk1 hS => ?_)
  have hP := zkeep hP hk1
  have hw : r_1 = 0 := hw
  subst hw
  refine lv_if_eq (tgt := 24) hx hb dX5_clause_9 (by decide) (fun _ => ?_) (fun c => absurd (by decide) c)
  refine lv_iconst (v := 0) hx hb dX5_clause_24 (by decide) ?_
  exact W.zret (v := 0) (ty := .boolean) hx hb hr rfl (fun t ht hW => ⟨⟨0, (), rfl, rfl, trivial⟩, hS.F ht⟩) hS.2.2 dX5_clause_25
set_option maxHeartbeats 4000000 in
set_option maxRecDepth 100000 in
theorem c_X5_read (l : Launch) (dC : Nat → ClassId) (dI : Nat → Nat → Nat) (cI cJ : ClassId) (h0 h1 h2 h3 : Nat) (sz : Nat) : Met l yX5_read (.code yX5_read cX5_read 4 (some .int) :: wA) ({ frames := 3, cells := 0, slots := 0, locals := 63 }) (zP (dC, dI) [(cI, .int), (cJ, .long)] [.ref h0, .ref h1] sz [(h1, .inr (9, [.ref h2, .int 0, .int 0])), (h0, .inr (5, [.ref h3, .int 0, .null]))]) (va_Qi (fun (r : Int32) (_ : Unit) => r = 0) (fun (_ : Unit) (t : State) => va_P (dC, dI) vwCl [(h1, .inr (9, [.ref h2, .int 0, .int 0])), (h0, .inr (5, [.ref h3, .int 0, .ref h1]))] t.heap ∧ va_D (va_A [(h1, .inr (9, [.ref h2, .int 0, .int 0])), (h0, .inr (5, [.ref h3, .int 0, .null]))] sz) [(h1, .inr (9, [.ref h2, .int 0, .int 0])), (h0, .inr (5, [.ref h3, .int 0, .ref h1]))]) (va_A [(h1, .inr (9, [.ref h2, .int 0, .int 0])), (h0, .inr (5, [.ref h3, .int 0, .null]))] sz)) 0 0 (va_A [(h1, .inr (9, [.ref h2, .int 0, .int 0])), (h0, .inr (5, [.ref h3, .int 0, .null]))] sz) := by
  refine Met.ofW (cc := cX5_read) (maxL := 4) (ret := (some .int)) (by decide) rfl ?_
  intro p e s m args below meth c s₁ B hml hv
  obtain ⟨rfl, hsz, hP, hK, hT⟩ := hv
  have hx := B.exec
  have hb := B.bytes
  have hr := B.returns
  have hts : ∀ w ∈ wA, w.before _ s = true := fun w h => atoms_spec (ws := .code yX5_read cX5_read 4 (some .int) :: wA) B.pre w (List.mem_cons_of_mem _ h)
  have hown : s.vm.findClass RX5 = some m.cls := findClass_of_methodNamed B.named
  have hlocks := B.notSynchronized
  subst hsz
  have hD := hT.self (sz := s.heap.size)
  generalize hAe : va_A [(h1, .inr (9, [.ref h2, .int 0, .int 0])), (h0, .inr (5, [.ref h3, .int 0, .null]))] s.heap.size = A at hD ⊢
  have hA : ∀ q : Nat, s.heap.size ≤ q → A q := fun q h => by rw [← hAe]; exact Or.inr h
  have hl := lv_entry ([.ref h0, .ref h1]) (n := 4) (Nat.le_of_ble_eq_true rfl)
  rw [lg_entry_eq]
  generalize (lg_sl ([.ref h0, .ref h1]) ++ List.replicate (4 - (lg_sl ([.ref h0, .ref h1])).length) Slot.unset).toArray = ls at hl ⊢
  have hl : lv_has ls 4 [(0, .ref h0), (1, .ref h1)] := hl
  refine zstart (fun H hH => ?_)
  rw [← hH] at hP
  have hS : va_S A s.heap H [] := by rw [hH]; exact va_S.rf
  refine lv_aload_n hx hb dX5_read_0 rfl (lv_at hl 0 rfl) ?_
  refine lv_aload_n hx hb dX5_read_1 rfl (lv_at hl 1 rfl) ?_
  refine va_put (D := (dC, dI)) (ci := 5) (v := .ref h1) (ty := .object "NinePortraits$Tape") (C := RX5) (T := TX5) (N := 3) hx hb hts iX5 tyX5 tyX5_ok nmX5 hown hK hP hD hS 1 rfl rfl 2 (by decide) (hts _ qw172) (fun _ h9 => h9) rfl (by decide +kernel) rfl rfl (Nat.le_of_ble_eq_true rfl) dX5_read_2 (fun H locs hP hD hS => ?_)
  have hP : va_P (dC, dI) vwCl [(h1, .inr (9, [.ref h2, .int 0, .int 0])), (h0, .inr (5, [.ref h3, .int 0, .ref h1]))] H := hP
  have hD : va_D A [(h1, .inr (9, [.ref h2, .int 0, .int 0])), (h0, .inr (5, [.ref h3, .int 0, .ref h1]))] := hD
  refine lv_aload_n hx hb dX5_read_5 rfl (lv_at hl 0 rfl) ?_
  refine va_get (D := (dC, dI)) (ci := 5) (v := .ref h1) (C := RX5) (T := TX5) (N := 3) hx hb hts iX5 hown hK hP 1 rfl rfl 2 (by decide) (hts _ qw172) (fun _ h9 => h9) rfl dX5_read_6 ?_
  refine lv_iconst (v := 0) hx hb dX5_read_9 (by decide) ?_
  refine va_put (D := (dC, dI)) (ci := 9) (v := .int 0) (ty := .int) (C := RX9) (T := TX9) (N := 3) hx hb hts iX9 tyX9 tyX9_ok nmX9 hown hK hP hD hS 0 rfl rfl 2 (by decide) (hts _ qw137) (fun _ h9 => h9) rfl (by decide +kernel) rfl rfl (Nat.le_of_ble_eq_true rfl) dX5_read_10 (fun H locs hP hD hS => ?_)
  have hP : va_P (dC, dI) vwCl [(h1, .inr (9, [.ref h2, .int 0, .int 0])), (h0, .inr (5, [.ref h3, .int 0, .ref h1]))] H := hP
  have hD : va_D A [(h1, .inr (9, [.ref h2, .int 0, .int 0])), (h0, .inr (5, [.ref h3, .int 0, .ref h1]))] := hD
  refine lv_aload_n hx hb dX5_read_13 rfl (lv_at hl 0 rfl) ?_
  refine lv_iconst (v := 0) hx hb dX5_read_14 (by decide) ?_
  refine va_put (D := (dC, dI)) (ci := 5) (v := .int 0) (ty := .int) (C := RX5) (T := TX5) (N := 3) hx hb hts iX5 tyX5 tyX5_ok nmX5 hown hK hP hD hS 1 rfl rfl 1 (by decide) (hts _ qw171) (fun _ h9 => h9) rfl (by decide +kernel) rfl rfl (Nat.le_of_ble_eq_true rfl) dX5_read_15 (fun H locs hP hD hS => ?_)
  have hP : va_P (dC, dI) vwCl [(h1, .inr (9, [.ref h2, .int 0, .int 0])), (h0, .inr (5, [.ref h3, .int 0, .ref h1]))] H := hP
  have hD : va_D A [(h1, .inr (9, [.ref h2, .int 0, .int 0])), (h0, .inr (5, [.ref h3, .int 0, .ref h1]))] := hD
  refine lv_aload_n hx hb dX5_read_18 rfl (lv_at hl 0 rfl) ?_
  have hPc := hP.sub (ws' := [(h1, .inr (9, [.ref h2, .int 0, .int 0])), (h0, .inr (5, [.ref h3, .int 0, .ref h1]))]) [0, 1] rfl
  have hDc := hD.sub (ws' := [(h1, .inr (9, [.ref h2, .int 0, .int 0])), (h0, .inr (5, [.ref h3, .int 0, .ref h1]))]) [0, 1] (by decide) rfl
  have hFc := zfr hS hA
  refine va_calli (va_runV (As := []) (rest := []) ⟨hx, hb, hml, hown, hts⟩ (c_X5_clause l dC dI cI cJ h0 h1 h2 h3 H.size) (cwV 0 hts (zgV qw480 qw482 qw2 qw101 qw483) rfl rfl rfl hd_X5_clause ⟨Nat.le_of_ble_eq_true rfl, Nat.le_of_ble_eq_true rfl⟩) (zPV hPc hK hDc (va_recv hK hP (ci := 5) (q0 := 1) rfl rfl)) rfl rfl hl.1 rfl (lv_room (Nat.le_of_ble_eq_true rfl)) dX5_read_19 ⟨Nat.le_of_ble_eq_true rfl, Nat.le_of_ble_eq_true rfl⟩) hS (fun q _ h => hFc q h) hFc (fun r_1 u t H locs ht hvm hw hB hz1 hk1 hS => ?_)
  have hP := zkeep hP hk1
  have hw : r_1 = 0 := hw
  subst hw
  refine lv_istore_n (lv' := [(2, .int 0), (0, .ref h0), (1, .ref h1)]) hx hb dX5_read_22 rfl hl (by decide) rfl (fun ls hl => ?_)
  refine lv_iconst (v := 0) hx hb dX5_read_23 (by decide) ?_
  refine lv_istore_n (lv' := [(3, .int 0), (2, .int 0), (0, .ref h0), (1, .ref h1)]) hx hb dX5_read_24 rfl hl (by decide) rfl (fun ls hl => ?_)
  refine lv_iload_n hx hb dX5_read_25 rfl (lv_at hl 0 rfl) ?_
  refine lv_aload_n hx hb dX5_read_26 rfl (lv_at hl 2 rfl) ?_
  refine va_get (D := (dC, dI)) (ci := 5) (v := .ref h1) (C := RX5) (T := TX5) (N := 3) hx hb hts iX5 hown hK hP 1 rfl rfl 2 (by decide) (hts _ qw172) (fun _ h9 => h9) rfl dX5_read_27 ?_
  refine va_get (D := (dC, dI)) (ci := 9) (v := .int 0) (C := RX9) (T := TX9) (N := 3) hx hb hts iX9 hown hK hP 0 rfl rfl 1 (by decide) (hts _ qw135) (fun _ h9 => h9) rfl dX5_read_30 ?_
  refine lv_icmp_ge (tgt := 63) hx hb dX5_read_33 (by decide) (fun _ => ?_) (fun c => absurd (by decide) c)
  refine lv_iload_n hx hb dX5_read_63 rfl (lv_at hl 1 rfl) ?_
  refine lv_if_eq (tgt := 81) hx hb dX5_read_64 (by decide) (fun _ => ?_) (fun c => absurd (by decide) c)
  refine lv_aload_n hx hb dX5_read_81 rfl (lv_at hl 2 rfl) ?_
  refine va_get (D := (dC, dI)) (ci := 5) (v := .ref h1) (C := RX5) (T := TX5) (N := 3) hx hb hts iX5 hown hK hP 1 rfl rfl 2 (by decide) (hts _ qw172) (fun _ h9 => h9) rfl dX5_read_82 ?_
  refine va_get (D := (dC, dI)) (ci := 9) (v := .int 0) (C := RX9) (T := TX9) (N := 3) hx hb hts iX9 hown hK hP 0 rfl rfl 2 (by decide) (hts _ qw137) (fun _ h9 => h9) rfl dX5_read_85 ?_
  exact W.iret (v := 0) hx hb hr (fun t ht hW => ⟨⟨0, (), rfl, rfl, ⟨by rw [ht]; exact hP, hD⟩⟩, hS.F ht⟩) hS.2.2 dX5_read_88
set_option maxHeartbeats 4000000 in
set_option maxRecDepth 100000 in
theorem c_X2_clause (l : Launch) (dC : Nat → ClassId) (dI : Nat → Nat → Nat) (cI cJ : ClassId) (h0 h1 h2 h3 : Nat) (sz : Nat) : Met l yX2_clause (.code yX2_clause cX2_clause 3 (some .boolean) :: wA) ({ frames := 1, cells := 0, slots := 0, locals := 20 }) (zP (dC, dI) [(cI, .int), (cJ, .long)] [.ref h0] sz [(h1, .inr (9, [.ref h2, .int 0, .int 0])), (h0, .inr (2, [.ref h1, .ref h3, .int 0]))]) (va_Qi (fun (r : Int32) (_ : Unit) => r = 0) (fun (_ : Unit) (_ : State) => True) (va_A [] sz)) 0 0 (va_A [] sz) := by
  refine Met.ofW (cc := cX2_clause) (maxL := 3) (ret := (some .boolean)) (by decide) rfl ?_
  intro p e s m args below meth c s₁ B hml hv
  obtain ⟨rfl, hsz, hP, hK, hT⟩ := hv
  have hx := B.exec
  have hb := B.bytes
  have hr := B.returns
  have hts : ∀ w ∈ wA, w.before _ s = true := fun w h => atoms_spec (ws := .code yX2_clause cX2_clause 3 (some .boolean) :: wA) B.pre w (List.mem_cons_of_mem _ h)
  have hown : s.vm.findClass RX2 = some m.cls := findClass_of_methodNamed B.named
  have hlocks := B.notSynchronized
  subst hsz
  have hD : va_D (va_A [] s.heap.size) [] := zD0
  generalize hAe : va_A [] s.heap.size = A at hD ⊢
  have hA : ∀ q : Nat, s.heap.size ≤ q → A q := fun q h => by rw [← hAe]; exact Or.inr h
  have hl := lv_entry ([.ref h0]) (n := 3) (Nat.le_of_ble_eq_true rfl)
  rw [lg_entry_eq]
  generalize (lg_sl ([.ref h0]) ++ List.replicate (3 - (lg_sl ([.ref h0])).length) Slot.unset).toArray = ls at hl ⊢
  have hl : lv_has ls 3 [(0, .ref h0)] := hl
  refine zstart (fun H hH => ?_)
  rw [← hH] at hP
  have hS : va_S A s.heap H [] := by rw [hH]; exact va_S.rf
  refine lv_aload_n hx hb dX2_clause_0 rfl (lv_at hl 0 rfl) ?_
  refine va_get (D := (dC, dI)) (ci := 2) (v := .ref h1) (C := RX2) (T := TX2) (N := 3) hx hb hts iX2 hown hK hP 1 rfl rfl 0 (by decide) (hts _ qw154) (fun _ h9 => h9) rfl dX2_clause_1 ?_
  have hPc := hP.sub (ws' := [(h1, .inr (9, [.ref h2, .int 0, .int 0]))]) [0] rfl
  have hDc := hT.sub (ws' := [(h1, .inr (9, [.ref h2, .int 0, .int 0]))]) [0] (by decide) rfl
  have hFc := zfr hS hA
  refine va_calli (va_runV (As := []) (rest := []) ⟨hx, hb, hml, hown, hts⟩ (c_X9_peek l dC dI cI cJ h1 h2 H.size) (cwV 0 hts (zgV qw437 qw438 qw439 qw99 qw440) rfl rfl rfl hd_X9_peek ⟨Nat.le_of_ble_eq_true rfl, Nat.le_of_ble_eq_true rfl⟩) (zPV hPc hK hDc (va_recv hK hP (ci := 9) (q0 := 0) rfl rfl)) rfl rfl hl.1 rfl (lv_room (Nat.le_of_ble_eq_true rfl)) dX2_clause_4 ⟨Nat.le_of_ble_eq_true rfl, Nat.le_of_ble_eq_true rfl⟩) hS (fun q _ h => hFc q h) hFc (fun r_1 u t H locs ht hvm hw hB hz1 hk1 hS => ?_)
  have hP := zkeep hP hk1
  have hw : r_1 = 0 := hw
  subst hw
  refine lv_istore_n (lv' := [(1, .int 0), (0, .ref h0)]) hx hb dX2_clause_7 rfl hl (by decide) rfl (fun ls hl => ?_)
  refine lv_iload_n hx hb dX2_clause_8 rfl (lv_at hl 0 rfl) ?_
  refine lv_bipush (v := 115) hx hb dX2_clause_9 (by decide) ?_
  refine lv_icmp_ne (tgt := 58) hx hb dX2_clause_11 (by decide) (fun _ => ?_) (fun c => absurd c (by decide))
  refine lv_iload_n hx hb dX2_clause_58 rfl (lv_at hl 0 rfl) ?_
  refine lv_bipush (v := 98) hx hb dX2_clause_59 (by decide) ?_
  refine lv_icmp_ne (tgt := 147) hx hb dX2_clause_61 (by decide) (fun _ => ?_) (fun c => absurd c (by decide))
  refine lv_iload_n hx hb dX2_clause_147 rfl (lv_at hl 0 rfl) ?_
  refine lv_bipush (v := 112) hx hb dX2_clause_148 (by decide) ?_
  refine lv_icmp_ne (tgt := 235) hx hb dX2_clause_150 (by decide) (fun _ => ?_) (fun c => absurd c (by decide))
  refine lv_iconst (v := 0) hx hb dX2_clause_235 (by decide) ?_
  exact W.zret (v := 0) (ty := .boolean) hx hb hr rfl (fun t ht hW => ⟨⟨0, (), rfl, rfl, trivial⟩, hS.F ht⟩) hS.2.2 dX2_clause_236
set_option maxHeartbeats 4000000 in
set_option maxRecDepth 100000 in
theorem c_X2_read (l : Launch) (dC : Nat → ClassId) (dI : Nat → Nat → Nat) (cI cJ : ClassId) (h0 h1 h2 h3 h4 h5 h6 : Nat) (g0 : Nat) (sz : Nat) : Met l yX2_read (.code yX2_read cX2_read 5 (some .int) :: wA) ({ frames := 2, cells := 0, slots := 0, locals := 60 }) (zPF (dC, dI) [(cI, .int), (cJ, .long)] [.ref h0, .ref h1, .ref h2] sz [(h1, .inr (9, [.ref h3, .int 0, .int 0])), (h0, .inr (2, [.null, .null, .int 0])), (h2, .inr (1, [.ref h4, .ref h5, .ref h6, .int 0, .int 0])), (h4, .inl (cI, 3, .inl (fun _ => 0)))] g0) (va_Qi (fun (r : Int32) (_ : Unit) => r = 0) (fun (_ : Unit) (t : State) => va_P (dC, dI) vwCl [(h1, .inr (9, [.ref h3, .int 0, .int 0])), (h0, .inr (2, [.ref h1, .ref h2, .int 0])), (h2, .inr (1, [.ref h4, .ref h5, .ref h6, .int 0, .int 0])), (h4, .inl (cI, 3, .inl (va_cpy zRD (fun _ => 0) 0 0 3)))] t.heap ∧ va_D (va_A [(h1, .inr (9, [.ref h3, .int 0, .int 0])), (h0, .inr (2, [.null, .null, .int 0])), (h2, .inr (1, [.ref h4, .ref h5, .ref h6, .int 0, .int 0])), (h4, .inl (cI, 3, .inl (fun _ => 0)))] sz) [(h1, .inr (9, [.ref h3, .int 0, .int 0])), (h0, .inr (2, [.ref h1, .ref h2, .int 0])), (h2, .inr (1, [.ref h4, .ref h5, .ref h6, .int 0, .int 0])), (h4, .inl (cI, 3, .inl (va_cpy zRD (fun _ => 0) 0 0 3)))]) (va_A [(h1, .inr (9, [.ref h3, .int 0, .int 0])), (h0, .inr (2, [.null, .null, .int 0])), (h2, .inr (1, [.ref h4, .ref h5, .ref h6, .int 0, .int 0])), (h4, .inl (cI, 3, .inl (fun _ => 0)))] sz)) 0 0 (va_A [(h1, .inr (9, [.ref h3, .int 0, .int 0])), (h0, .inr (2, [.null, .null, .int 0])), (h2, .inr (1, [.ref h4, .ref h5, .ref h6, .int 0, .int 0])), (h4, .inl (cI, 3, .inl (fun _ => 0)))] sz) := by
  refine Met.ofW (cc := cX2_read) (maxL := 5) (ret := (some .int)) (by decide) rfl ?_
  intro p e s m args below meth c s₁ B hml hv
  obtain ⟨⟨rfl, hsz, hP, hK, hT⟩, hF⟩ := hv
  have hx := B.exec
  have hb := B.bytes
  have hr := B.returns
  have hts : ∀ w ∈ wA, w.before _ s = true := fun w h => atoms_spec (ws := .code yX2_read cX2_read 5 (some .int) :: wA) B.pre w (List.mem_cons_of_mem _ h)
  have hown : s.vm.findClass RX2 = some m.cls := findClass_of_methodNamed B.named
  have hlocks := B.notSynchronized
  subst hsz
  have hD := hT.self (sz := s.heap.size)
  generalize hAe : va_A [(h1, .inr (9, [.ref h3, .int 0, .int 0])), (h0, .inr (2, [.null, .null, .int 0])), (h2, .inr (1, [.ref h4, .ref h5, .ref h6, .int 0, .int 0])), (h4, .inl (cI, 3, .inl (fun _ => 0)))] s.heap.size = A at hD hF ⊢
  have hA : ∀ q : Nat, s.heap.size ≤ q → A q := fun q h => by rw [← hAe]; exact Or.inr h
  have hl := lv_entry ([.ref h0, .ref h1, .ref h2]) (n := 5) (Nat.le_of_ble_eq_true rfl)
  rw [lg_entry_eq]
  generalize (lg_sl ([.ref h0, .ref h1, .ref h2]) ++ List.replicate (5 - (lg_sl ([.ref h0, .ref h1, .ref h2])).length) Slot.unset).toArray = ls at hl ⊢
  have hl : lv_has ls 5 [(0, .ref h0), (1, .ref h1), (2, .ref h2)] := hl
  refine zstart (fun H hH => ?_)
  rw [← hH] at hP
  have hS : va_S A s.heap H [] := by rw [hH]; exact va_S.rf
  refine lv_aload_n hx hb dX2_read_0 rfl (lv_at hl 0 rfl) ?_
  refine lv_aload_n hx hb dX2_read_1 rfl (lv_at hl 1 rfl) ?_
  refine va_put (D := (dC, dI)) (ci := 2) (v := .ref h1) (ty := .object "NinePortraits$Tape") (C := RX2) (T := TX2) (N := 3) hx hb hts iX2 tyX2 tyX2_ok nmX2 hown hK hP hD hS 1 rfl rfl 0 (by decide) (hts _ qw154) (fun _ h9 => h9) rfl (by decide +kernel) rfl rfl (Nat.le_of_ble_eq_true rfl) dX2_read_2 (fun H locs hP hD hS => ?_)
  have hP : va_P (dC, dI) vwCl [(h1, .inr (9, [.ref h3, .int 0, .int 0])), (h0, .inr (2, [.ref h1, .null, .int 0])), (h2, .inr (1, [.ref h4, .ref h5, .ref h6, .int 0, .int 0])), (h4, .inl (cI, 3, .inl (fun _ => 0)))] H := hP
  have hD : va_D A [(h1, .inr (9, [.ref h3, .int 0, .int 0])), (h0, .inr (2, [.ref h1, .null, .int 0])), (h2, .inr (1, [.ref h4, .ref h5, .ref h6, .int 0, .int 0])), (h4, .inl (cI, 3, .inl (fun _ => 0)))] := hD
  refine lv_aload_n hx hb dX2_read_5 rfl (lv_at hl 0 rfl) ?_
  refine lv_aload_n hx hb dX2_read_6 rfl (lv_at hl 2 rfl) ?_
  refine va_put (D := (dC, dI)) (ci := 2) (v := .ref h2) (ty := .object "NinePortraits$Court") (C := RX2) (T := TX2) (N := 3) hx hb hts iX2 tyX2 tyX2_ok nmX2 hown hK hP hD hS 1 rfl rfl 1 (by decide) (hts _ qw155) (fun _ h9 => h9) rfl (by decide +kernel) rfl rfl (Nat.le_of_ble_eq_true rfl) dX2_read_7 (fun H locs hP hD hS => ?_)
  have hP : va_P (dC, dI) vwCl [(h1, .inr (9, [.ref h3, .int 0, .int 0])), (h0, .inr (2, [.ref h1, .ref h2, .int 0])), (h2, .inr (1, [.ref h4, .ref h5, .ref h6, .int 0, .int 0])), (h4, .inl (cI, 3, .inl (fun _ => 0)))] H := hP
  have hD : va_D A [(h1, .inr (9, [.ref h3, .int 0, .int 0])), (h0, .inr (2, [.ref h1, .ref h2, .int 0])), (h2, .inr (1, [.ref h4, .ref h5, .ref h6, .int 0, .int 0])), (h4, .inl (cI, 3, .inl (fun _ => 0)))] := hD
  refine lv_aload_n hx hb dX2_read_10 rfl (lv_at hl 0 rfl) ?_
  refine va_get (D := (dC, dI)) (ci := 2) (v := .ref h1) (C := RX2) (T := TX2) (N := 3) hx hb hts iX2 hown hK hP 1 rfl rfl 0 (by decide) (hts _ qw154) (fun _ h9 => h9) rfl dX2_read_11 ?_
  refine lv_iconst (v := 0) hx hb dX2_read_14 (by decide) ?_
  refine va_put (D := (dC, dI)) (ci := 9) (v := .int 0) (ty := .int) (C := RX9) (T := TX9) (N := 3) hx hb hts iX9 tyX9 tyX9_ok nmX9 hown hK hP hD hS 0 rfl rfl 2 (by decide) (hts _ qw138) (fun _ h9 => h9) rfl (by decide +kernel) rfl rfl (Nat.le_of_ble_eq_true rfl) dX2_read_15 (fun H locs hP hD hS => ?_)
  have hP : va_P (dC, dI) vwCl [(h1, .inr (9, [.ref h3, .int 0, .int 0])), (h0, .inr (2, [.ref h1, .ref h2, .int 0])), (h2, .inr (1, [.ref h4, .ref h5, .ref h6, .int 0, .int 0])), (h4, .inl (cI, 3, .inl (fun _ => 0)))] H := hP
  have hD : va_D A [(h1, .inr (9, [.ref h3, .int 0, .int 0])), (h0, .inr (2, [.ref h1, .ref h2, .int 0])), (h2, .inr (1, [.ref h4, .ref h5, .ref h6, .int 0, .int 0])), (h4, .inl (cI, 3, .inl (fun _ => 0)))] := hD
  refine lv_aload_n hx hb dX2_read_18 rfl (lv_at hl 0 rfl) ?_
  refine va_get (D := (dC, dI)) (ci := 2) (v := .ref h2) (C := RX2) (T := TX2) (N := 3) hx hb hts iX2 hown hK hP 1 rfl rfl 1 (by decide) (hts _ qw155) (fun _ h9 => h9) rfl dX2_read_19 ?_
  refine lv_iconst (v := 0) hx hb dX2_read_22 (by decide) ?_
  refine va_put (D := (dC, dI)) (ci := 1) (v := .int 0) (ty := .int) (C := RX1) (T := TX1) (N := 5) hx hb hts iX1 tyX1 tyX1_ok nmX1 hown hK hP hD hS 2 rfl rfl 3 (by decide) (hts _ qw193) (fun _ h9 => h9) rfl (by decide +kernel) rfl rfl (Nat.le_of_ble_eq_true rfl) dX2_read_23 (fun H locs hP hD hS => ?_)
  have hP : va_P (dC, dI) vwCl [(h1, .inr (9, [.ref h3, .int 0, .int 0])), (h0, .inr (2, [.ref h1, .ref h2, .int 0])), (h2, .inr (1, [.ref h4, .ref h5, .ref h6, .int 0, .int 0])), (h4, .inl (cI, 3, .inl (fun _ => 0)))] H := hP
  have hD : va_D A [(h1, .inr (9, [.ref h3, .int 0, .int 0])), (h0, .inr (2, [.ref h1, .ref h2, .int 0])), (h2, .inr (1, [.ref h4, .ref h5, .ref h6, .int 0, .int 0])), (h4, .inl (cI, 3, .inl (fun _ => 0)))] := hD
  refine lv_aload_n hx hb dX2_read_26 rfl (lv_at hl 0 rfl) ?_
  refine va_get (D := (dC, dI)) (ci := 2) (v := .ref h2) (C := RX2) (T := TX2) (N := 3) hx hb hts iX2 hown hK hP 1 rfl rfl 1 (by decide) (hts _ qw155) (fun _ h9 => h9) rfl dX2_read_27 ?_
  refine lv_iconst (v := 0) hx hb dX2_read_30 (by decide) ?_
  refine va_put (D := (dC, dI)) (ci := 1) (v := .int 0) (ty := .int) (C := RX1) (T := TX1) (N := 5) hx hb hts iX1 tyX1 tyX1_ok nmX1 hown hK hP hD hS 2 rfl rfl 4 (by decide) (hts _ qw197) (fun _ h9 => h9) rfl (by decide +kernel) rfl rfl (Nat.le_of_ble_eq_true rfl) dX2_read_31 (fun H locs hP hD hS => ?_)
  have hP : va_P (dC, dI) vwCl [(h1, .inr (9, [.ref h3, .int 0, .int 0])), (h0, .inr (2, [.ref h1, .ref h2, .int 0])), (h2, .inr (1, [.ref h4, .ref h5, .ref h6, .int 0, .int 0])), (h4, .inl (cI, 3, .inl (fun _ => 0)))] H := hP
  have hD : va_D A [(h1, .inr (9, [.ref h3, .int 0, .int 0])), (h0, .inr (2, [.ref h1, .ref h2, .int 0])), (h2, .inr (1, [.ref h4, .ref h5, .ref h6, .int 0, .int 0])), (h4, .inl (cI, 3, .inl (fun _ => 0)))] := hD
  refine lv_aload_n hx hb dX2_read_34 rfl (lv_at hl 0 rfl) ?_
  refine lv_iconst (v := 0) hx hb dX2_read_35 (by decide) ?_
  refine va_put (D := (dC, dI)) (ci := 2) (v := .int 0) (ty := .boolean) (C := RX2) (T := TX2) (N := 3) hx hb hts iX2 tyX2 tyX2_ok nmX2 hown hK hP hD hS 1 rfl rfl 2 (by decide) (hts _ qw156) (fun _ h9 => h9) rfl (by decide +kernel) rfl rfl (Nat.le_of_ble_eq_true rfl) dX2_read_36 (fun H locs hP hD hS => ?_)
  have hP : va_P (dC, dI) vwCl [(h1, .inr (9, [.ref h3, .int 0, .int 0])), (h0, .inr (2, [.ref h1, .ref h2, .int 0])), (h2, .inr (1, [.ref h4, .ref h5, .ref h6, .int 0, .int 0])), (h4, .inl (cI, 3, .inl (fun _ => 0)))] H := hP
  have hD : va_D A [(h1, .inr (9, [.ref h3, .int 0, .int 0])), (h0, .inr (2, [.ref h1, .ref h2, .int 0])), (h2, .inr (1, [.ref h4, .ref h5, .ref h6, .int 0, .int 0])), (h4, .inl (cI, 3, .inl (fun _ => 0)))] := hD
  refine va_gets hx hb hF.1 hS hown (hts _ qw428) (fun _ h9 => h9) dX2_read_39 ?_
  refine lv_iconst (v := 0) hx hb dX2_read_42 (by decide) ?_
  refine lv_aload_n hx hb dX2_read_43 rfl (lv_at hl 0 rfl) ?_
  refine va_get (D := (dC, dI)) (ci := 2) (v := .ref h2) (C := RX2) (T := TX2) (N := 3) hx hb hts iX2 hown hK hP 1 rfl rfl 1 (by decide) (hts _ qw155) (fun _ h9 => h9) rfl dX2_read_44 ?_
  refine va_get (D := (dC, dI)) (ci := 1) (v := .ref h4) (C := RX1) (T := TX1) (N := 5) hx hb hts iX1 hown hK hP 2 rfl rfl 0 (by decide) (hts _ qw187) (fun _ h9 => h9) rfl dX2_read_47 ?_
  refine lv_iconst (v := 0) hx hb dX2_read_50 (by decide) ?_
  refine va_gets hx hb hF.1 hS hown (hts _ qw428) (fun _ h9 => h9) dX2_read_51 ?_
  refine va_tlen (v := 3) hx hb hF.2 hS (by decide) dX2_read_54 ?_
  refine zcopyT hx hb (by rw [hml]; exact hl.1.symm) hown (hts _ qw430) (hts _ qw432) (hts _ qw431) (hts _ qw109) hK hP hD hS 3 0 hF.2 rfl rfl (by decide) (by decide) (by decide) (by decide) (by decide) (Nat.le_of_ble_eq_true rfl) (by decide) dX2_read_55 (fun H locs hP hD hS => ?_)
  have hP : va_P (dC, dI) vwCl [(h1, .inr (9, [.ref h3, .int 0, .int 0])), (h0, .inr (2, [.ref h1, .ref h2, .int 0])), (h2, .inr (1, [.ref h4, .ref h5, .ref h6, .int 0, .int 0])), (h4, .inl (cI, 3, .inl (va_cpy zRD (fun _ => 0) 0 0 3)))] H := hP
  have hD : va_D A [(h1, .inr (9, [.ref h3, .int 0, .int 0])), (h0, .inr (2, [.ref h1, .ref h2, .int 0])), (h2, .inr (1, [.ref h4, .ref h5, .ref h6, .int 0, .int 0])), (h4, .inl (cI, 3, .inl (va_cpy zRD (fun _ => 0) 0 0 3)))] := hD
  refine lv_aload_n hx hb dX2_read_58 rfl (lv_at hl 0 rfl) ?_
  have hPc := hP.sub (ws' := [(h1, .inr (9, [.ref h3, .int 0, .int 0])), (h0, .inr (2, [.ref h1, .ref h2, .int 0]))]) [0, 1] rfl
  have hDc := hD.sub (ws' := [(h1, .inr (9, [.ref h3, .int 0, .int 0])), (h0, .inr (2, [.ref h1, .ref h2, .int 0]))]) [0, 1] (by decide) rfl
  have hFc := zfr hS hA
  refine va_calli (va_runV (As := []) (rest := []) ⟨hx, hb, hml, hown, hts⟩ (c_X2_clause l dC dI cI cJ h0 h1 h3 h2 H.size) (cwV 0 hts (zgV qw433 qw435 qw0 qw100 qw436) rfl rfl rfl hd_X2_clause ⟨Nat.le_of_ble_eq_true rfl, Nat.le_of_ble_eq_true rfl⟩) (zPV hPc hK hDc (va_recv hK hP (ci := 2) (q0 := 1) rfl rfl)) rfl rfl hl.1 rfl (lv_room (Nat.le_of_ble_eq_true rfl)) dX2_read_59 ⟨Nat.le_of_ble_eq_true rfl, Nat.le_of_ble_eq_true rfl⟩) hS (fun q _ h => hFc q h) hFc (fun r_1 u t H locs ht hvm hw hB hz1 hk1 hS => ?_)
  have hP := zkeep hP hk1
  have hw : r_1 = 0 := hw
  subst hw
  refine lv_istore_n (lv' := [(3, .int 0), (0, .ref h0), (1, .ref h1), (2, .ref h2)]) hx hb dX2_read_62 rfl hl (by decide) rfl (fun ls hl => ?_)
  refine lv_iconst (v := 0) hx hb dX2_read_63 (by decide) ?_
  refine lv_istore (lv' := [(4, .int 0), (3, .int 0), (0, .ref h0), (1, .ref h1), (2, .ref h2)]) hx hb dX2_read_64 hl (by decide) rfl (fun ls hl => ?_)
  refine lv_iload hx hb dX2_read_66 (lv_at hl 0 rfl) ?_
  refine lv_aload_n hx hb dX2_read_68 rfl (lv_at hl 2 rfl) ?_
  refine va_get (D := (dC, dI)) (ci := 2) (v := .ref h1) (C := RX2) (T := TX2) (N := 3) hx hb hts iX2 hown hK hP 1 rfl rfl 0 (by decide) (hts _ qw154) (fun _ h9 => h9) rfl dX2_read_69 ?_
  refine va_get (D := (dC, dI)) (ci := 9) (v := .int 0) (C := RX9) (T := TX9) (N := 3) hx hb hts iX9 hown hK hP 0 rfl rfl 1 (by decide) (hts _ qw136) (fun _ h9 => h9) rfl dX2_read_72 ?_
  refine lv_icmp_ge (tgt := 105) hx hb dX2_read_75 (by decide) (fun _ => ?_) (fun c => absurd (by decide) c)
  refine lv_iload_n hx hb dX2_read_105 rfl (lv_at hl 1 rfl) ?_
  refine lv_if_eq (tgt := 141) hx hb dX2_read_106 (by decide) (fun _ => ?_) (fun c => absurd (by decide) c)
  refine lv_aload_n hx hb dX2_read_141 rfl (lv_at hl 2 rfl) ?_
  refine va_get (D := (dC, dI)) (ci := 2) (v := .ref h1) (C := RX2) (T := TX2) (N := 3) hx hb hts iX2 hown hK hP 1 rfl rfl 0 (by decide) (hts _ qw154) (fun _ h9 => h9) rfl dX2_read_142 ?_
  refine va_get (D := (dC, dI)) (ci := 9) (v := .int 0) (C := RX9) (T := TX9) (N := 3) hx hb hts iX9 hown hK hP 0 rfl rfl 2 (by decide) (hts _ qw138) (fun _ h9 => h9) rfl dX2_read_145 ?_
  exact W.iret (v := 0) hx hb hr (fun t ht hW => ⟨⟨0, (), rfl, rfl, ⟨by rw [ht]; exact hP, hD⟩⟩, hS.F ht⟩) hS.2.2 dX2_read_148
set_option maxHeartbeats 4000000 in
set_option maxRecDepth 100000 in
theorem c_X10_fault (l : Launch) (dC : Nat → ClassId) (dI : Nat → Nat → Nat) (cI cJ : ClassId) (h0 h1 h2 h3 h4 h5 h6 h7 h8 h9 h10 h11 h12 h13 h14 h15 h16 h17 h18 : Nat) (g0 : Nat) (sz : Nat) (p0 : Int32) : Met l yX10_fault (.code yX10_fault cX10_fault 2 (some .int) :: wA) ({ frames := 4, cells := 0, slots := 0, locals := 86 }) (zPF (dC, dI) [(cI, .int), (cJ, .long)] [.ref h0, .int p0] sz [(h0, .inr (10, [.ref h1, .ref h2, .ref h3, .ref h4, .ref h5, .ref h6, .ref h7, .ref h8, .ref h9, .ref h10, .ref h11, .ref h12, .ref h13, .int 0, .int (-1), .int 0, .int 0])), (h1, .inr (9, [.ref h14, .int 0, .int 0])), (h2, .inr (2, [.null, .null, .int 0])), (h3, .inr (5, [.ref h15, .int 0, .null])), (h4, .inr (1, [.ref h16, .ref h17, .ref h18, .int 0, .int 0])), (h16, .inl (cI, 3, .inl (fun _ => 0)))] g0) (va_Qi (fun (r : Int32) (_ : Unit) => (¬ p0 = 0 ∧ ¬ p0 = 1 ∧ r = (-2)) ∨ (¬ p0 = 0 ∧ p0 = 1 ∧ r = 0) ∨ (p0 = 0 ∧ r = 0)) (fun (_ : Unit) (_ : State) => True) (va_A [(h0, .inr (10, [.ref h1, .ref h2, .ref h3, .ref h4, .ref h5, .ref h6, .ref h7, .ref h8, .ref h9, .ref h10, .ref h11, .ref h12, .ref h13, .int 0, .int (-1), .int 0, .int 0])), (h1, .inr (9, [.ref h14, .int 0, .int 0])), (h2, .inr (2, [.null, .null, .int 0])), (h3, .inr (5, [.ref h15, .int 0, .null])), (h4, .inr (1, [.ref h16, .ref h17, .ref h18, .int 0, .int 0])), (h16, .inl (cI, 3, .inl (fun _ => 0)))] sz)) 0 0 (va_A [(h0, .inr (10, [.ref h1, .ref h2, .ref h3, .ref h4, .ref h5, .ref h6, .ref h7, .ref h8, .ref h9, .ref h10, .ref h11, .ref h12, .ref h13, .int 0, .int (-1), .int 0, .int 0])), (h1, .inr (9, [.ref h14, .int 0, .int 0])), (h2, .inr (2, [.null, .null, .int 0])), (h3, .inr (5, [.ref h15, .int 0, .null])), (h4, .inr (1, [.ref h16, .ref h17, .ref h18, .int 0, .int 0])), (h16, .inl (cI, 3, .inl (fun _ => 0)))] sz) := by
  refine Met.ofW (cc := cX10_fault) (maxL := 2) (ret := (some .int)) (by decide) rfl ?_
  intro p e s m args below meth c s₁ B hml hv
  obtain ⟨⟨rfl, hsz, hP, hK, hT⟩, hF⟩ := hv
  have hx := B.exec
  have hb := B.bytes
  have hr := B.returns
  have hts : ∀ w ∈ wA, w.before _ s = true := fun w h => atoms_spec (ws := .code yX10_fault cX10_fault 2 (some .int) :: wA) B.pre w (List.mem_cons_of_mem _ h)
  have hown : s.vm.findClass RX10 = some m.cls := findClass_of_methodNamed B.named
  have hlocks := B.notSynchronized
  subst hsz
  have hD := hT.self (sz := s.heap.size)
  generalize hAe : va_A [(h0, .inr (10, [.ref h1, .ref h2, .ref h3, .ref h4, .ref h5, .ref h6, .ref h7, .ref h8, .ref h9, .ref h10, .ref h11, .ref h12, .ref h13, .int 0, .int (-1), .int 0, .int 0])), (h1, .inr (9, [.ref h14, .int 0, .int 0])), (h2, .inr (2, [.null, .null, .int 0])), (h3, .inr (5, [.ref h15, .int 0, .null])), (h4, .inr (1, [.ref h16, .ref h17, .ref h18, .int 0, .int 0])), (h16, .inl (cI, 3, .inl (fun _ => 0)))] s.heap.size = A at hD hF ⊢
  have hA : ∀ q : Nat, s.heap.size ≤ q → A q := fun q h => by rw [← hAe]; exact Or.inr h
  have hl := lv_entry ([.ref h0, .int p0]) (n := 2) (Nat.le_of_ble_eq_true rfl)
  rw [lg_entry_eq]
  generalize (lg_sl ([.ref h0, .int p0]) ++ List.replicate (2 - (lg_sl ([.ref h0, .int p0])).length) Slot.unset).toArray = ls at hl ⊢
  have hl : lv_has ls 2 [(0, .ref h0), (1, .int p0)] := hl
  refine zstart (fun H hH => ?_)
  rw [← hH] at hP
  have hS : va_S A s.heap H [] := by rw [hH]; exact va_S.rf
  refine lv_iload_n hx hb dX10_fault_0 rfl (lv_at hl 1 rfl) ?_
  refine lv_if_ne (tgt := 20) hx hb dX10_fault_1 (by decide) (fun c_1 => ?_) (fun c_1 => ?_)
  · have i_1 : ¬ p0.toInt = 0 := z6 rfl (by decide) c_1
    refine lv_iload_n hx hb dX10_fault_20 rfl (lv_at hl 1 rfl) ?_
    refine lv_iconst (v := 1) hx hb dX10_fault_21 (by decide) ?_
    refine lv_icmp_ne (tgt := 37) hx hb dX10_fault_22 (by decide) (fun c_2 => ?_) (fun c_2 => ?_)
    · have i_2 : ¬ p0.toInt = 1 := z6 rfl (by decide) c_2
      refine lv_bipush (v := (-2)) hx hb dX10_fault_37 (by decide) ?_
      exact W.iret (v := ((-2))) hx hb hr (fun t ht hW => ⟨⟨(-2), (), rfl, Or.inl ⟨c_1, c_2, rfl⟩, trivial⟩, hS.F ht⟩) hS.2.2 dX10_fault_39
    · have i_2 : p0.toInt = 1 := z5 rfl (by decide) c_2
      refine lv_aload_n hx hb dX10_fault_25 rfl (lv_at hl 0 rfl) ?_
      refine va_get (D := (dC, dI)) (ci := 10) (v := .ref h3) (C := RX10) (T := TX10) (N := 17) hx hb hts iX10 hown hK hP 0 rfl rfl 2 (by decide) (hts _ qw358) (fun _ h9 => h9) rfl dX10_fault_26 ?_
      refine lv_aload_n hx hb dX10_fault_29 rfl (lv_at hl 0 rfl) ?_
      refine va_get (D := (dC, dI)) (ci := 10) (v := .ref h1) (C := RX10) (T := TX10) (N := 17) hx hb hts iX10 hown hK hP 0 rfl rfl 0 (by decide) (hts _ qw356) (fun _ h9 => h9) rfl dX10_fault_30 ?_
      have hPc := hP.sub (ws' := [(h1, .inr (9, [.ref h14, .int 0, .int 0])), (h3, .inr (5, [.ref h15, .int 0, .null]))]) [1, 3] rfl
      have hDc := hD.sub (ws' := [(h1, .inr (9, [.ref h14, .int 0, .int 0])), (h3, .inr (5, [.ref h15, .int 0, .null]))]) [1, 3] (by decide) rfl
      have hFc := va_free (wc := [(h1, .inr (9, [.ref h14, .int 0, .int 0])), (h3, .inr (5, [.ref h15, .int 0, .null]))]) hD hS hA [1, 3] rfl
      refine va_calli (va_runV (As := [.ref h1]) (rest := []) ⟨hx, hb, hml, hown, hts⟩ (c_X5_read l dC dI cI cJ h3 h1 h14 h15 H.size) (cwV 1 hts (zgV qw476 qw477 qw478 qw101 qw479) rfl rfl rfl hd_X5_read ⟨Nat.le_of_ble_eq_true rfl, Nat.le_of_ble_eq_true rfl⟩) (zPV hPc hK hDc (va_recv hK hP (ci := 5) (q0 := 3) rfl rfl)) rfl rfl hl.1 rfl (lv_room (Nat.le_of_ble_eq_true rfl)) dX10_fault_33 ⟨Nat.le_of_ble_eq_true rfl, Nat.le_of_ble_eq_true rfl⟩) hS (fun q _ h => hFc q h) hFc (fun r_3 u t H locs ht hvm hw hB hz1 hk1 hS => ?_)
      obtain ⟨hP1, hD1⟩ := hB
      rw [ht] at hP1
      obtain ⟨hP, hD⟩ := va_join (wr := [(h0, .inr (10, [.ref h1, .ref h2, .ref h3, .ref h4, .ref h5, .ref h6, .ref h7, .ref h8, .ref h9, .ref h10, .ref h11, .ref h12, .ref h13, .int 0, .int (-1), .int 0, .int 0])), (h2, .inr (2, [.null, .null, .int 0])), (h4, .inr (1, [.ref h16, .ref h17, .ref h18, .int 0, .int 0])), (h16, .inl (cI, 3, .inl (fun _ => 0)))]) (w1 := [(h1, .inr (9, [.ref h14, .int 0, .int 0])), (h3, .inr (5, [.ref h15, .int 0, .ref h1]))]) hP hD [1, 3] [0, 2, 4, 5] rfl rfl (by decide) (by decide) hk1 hFc hP1 hD1
      have hP : va_P (dC, dI) vwCl [(h0, .inr (10, [.ref h1, .ref h2, .ref h3, .ref h4, .ref h5, .ref h6, .ref h7, .ref h8, .ref h9, .ref h10, .ref h11, .ref h12, .ref h13, .int 0, .int (-1), .int 0, .int 0])), (h2, .inr (2, [.null, .null, .int 0])), (h4, .inr (1, [.ref h16, .ref h17, .ref h18, .int 0, .int 0])), (h16, .inl (cI, 3, .inl (fun _ => 0))), (h1, .inr (9, [.ref h14, .int 0, .int 0])), (h3, .inr (5, [.ref h15, .int 0, .ref h1]))] H := hP
      have hD : va_D A [(h0, .inr (10, [.ref h1, .ref h2, .ref h3, .ref h4, .ref h5, .ref h6, .ref h7, .ref h8, .ref h9, .ref h10, .ref h11, .ref h12, .ref h13, .int 0, .int (-1), .int 0, .int 0])), (h2, .inr (2, [.null, .null, .int 0])), (h4, .inr (1, [.ref h16, .ref h17, .ref h18, .int 0, .int 0])), (h16, .inl (cI, 3, .inl (fun _ => 0))), (h1, .inr (9, [.ref h14, .int 0, .int 0])), (h3, .inr (5, [.ref h15, .int 0, .ref h1]))] := hD
      have hw : r_3 = 0 := hw
      subst hw
      exact W.iret (v := 0) hx hb hr (fun t ht hW => ⟨⟨0, (), rfl, Or.inr (Or.inl ⟨c_1, c_2, rfl⟩), trivial⟩, hS.F ht⟩) hS.2.2 dX10_fault_36
  · have i_1 : p0.toInt = 0 := z5 rfl (by decide) c_1
    refine lv_aload_n hx hb dX10_fault_4 rfl (lv_at hl 0 rfl) ?_
    refine va_get (D := (dC, dI)) (ci := 10) (v := .ref h2) (C := RX10) (T := TX10) (N := 17) hx hb hts iX10 hown hK hP 0 rfl rfl 1 (by decide) (hts _ qw357) (fun _ h9 => h9) rfl dX10_fault_5 ?_
    refine lv_aload_n hx hb dX10_fault_8 rfl (lv_at hl 0 rfl) ?_
    refine va_get (D := (dC, dI)) (ci := 10) (v := .ref h1) (C := RX10) (T := TX10) (N := 17) hx hb hts iX10 hown hK hP 0 rfl rfl 0 (by decide) (hts _ qw356) (fun _ h9 => h9) rfl dX10_fault_9 ?_
    refine lv_aload_n hx hb dX10_fault_12 rfl (lv_at hl 0 rfl) ?_
    refine va_get (D := (dC, dI)) (ci := 10) (v := .ref h4) (C := RX10) (T := TX10) (N := 17) hx hb hts iX10 hown hK hP 0 rfl rfl 3 (by decide) (hts _ qw359) (fun _ h9 => h9) rfl dX10_fault_13 ?_
    have hPc := hP.sub (ws' := [(h1, .inr (9, [.ref h14, .int 0, .int 0])), (h2, .inr (2, [.null, .null, .int 0])), (h4, .inr (1, [.ref h16, .ref h17, .ref h18, .int 0, .int 0])), (h16, .inl (cI, 3, .inl (fun _ => 0)))]) [1, 2, 4, 5] rfl
    have hDc := hD.sub (ws' := [(h1, .inr (9, [.ref h14, .int 0, .int 0])), (h2, .inr (2, [.null, .null, .int 0])), (h4, .inr (1, [.ref h16, .ref h17, .ref h18, .int 0, .int 0])), (h16, .inl (cI, 3, .inl (fun _ => 0)))]) [1, 2, 4, 5] (by decide) rfl
    have hFc := va_free (wc := [(h1, .inr (9, [.ref h14, .int 0, .int 0])), (h2, .inr (2, [.null, .null, .int 0])), (h4, .inr (1, [.ref h16, .ref h17, .ref h18, .int 0, .int 0])), (h16, .inl (cI, 3, .inl (fun _ => 0)))]) hD hS hA [1, 2, 4, 5] rfl
    refine va_calli (va_runV (As := [.ref h1, .ref h4]) (rest := []) ⟨hx, hb, hml, hown, hts⟩ (c_X2_read l dC dI cI cJ h2 h1 h4 h14 h16 h17 h18 g0 H.size) (cwV 2 hts (zgV qw424 qw425 qw426 qw100 qw427) rfl rfl rfl hd_X2_read ⟨Nat.le_of_ble_eq_true rfl, Nat.le_of_ble_eq_true rfl⟩) (zPFV hPc hK hDc (va_recv hK hP (ci := 2) (q0 := 2) rfl rfl) (zF_call hF hS hFc)) rfl rfl hl.1 rfl (lv_room (Nat.le_of_ble_eq_true rfl)) dX10_fault_16 ⟨Nat.le_of_ble_eq_true rfl, Nat.le_of_ble_eq_true rfl⟩) hS (fun q _ h => hFc q h) hFc (fun r_4 u t H locs ht hvm hw hB hz1 hk1 hS => ?_)
    obtain ⟨hP1, hD1⟩ := hB
    rw [ht] at hP1
    obtain ⟨hP, hD⟩ := va_join (wr := [(h0, .inr (10, [.ref h1, .ref h2, .ref h3, .ref h4, .ref h5, .ref h6, .ref h7, .ref h8, .ref h9, .ref h10, .ref h11, .ref h12, .ref h13, .int 0, .int (-1), .int 0, .int 0])), (h3, .inr (5, [.ref h15, .int 0, .null]))]) (w1 := [(h1, .inr (9, [.ref h14, .int 0, .int 0])), (h2, .inr (2, [.ref h1, .ref h4, .int 0])), (h4, .inr (1, [.ref h16, .ref h17, .ref h18, .int 0, .int 0])), (h16, .inl (cI, 3, .inl (va_cpy zRD (fun _ => 0) 0 0 3)))]) hP hD [1, 2, 4, 5] [0, 3] rfl rfl (by decide) (by decide) hk1 hFc hP1 hD1
    have hP : va_P (dC, dI) vwCl [(h0, .inr (10, [.ref h1, .ref h2, .ref h3, .ref h4, .ref h5, .ref h6, .ref h7, .ref h8, .ref h9, .ref h10, .ref h11, .ref h12, .ref h13, .int 0, .int (-1), .int 0, .int 0])), (h3, .inr (5, [.ref h15, .int 0, .null])), (h1, .inr (9, [.ref h14, .int 0, .int 0])), (h2, .inr (2, [.ref h1, .ref h4, .int 0])), (h4, .inr (1, [.ref h16, .ref h17, .ref h18, .int 0, .int 0])), (h16, .inl (cI, 3, .inl (va_cpy zRD (fun _ => 0) 0 0 3)))] H := hP
    have hD : va_D A [(h0, .inr (10, [.ref h1, .ref h2, .ref h3, .ref h4, .ref h5, .ref h6, .ref h7, .ref h8, .ref h9, .ref h10, .ref h11, .ref h12, .ref h13, .int 0, .int (-1), .int 0, .int 0])), (h3, .inr (5, [.ref h15, .int 0, .null])), (h1, .inr (9, [.ref h14, .int 0, .int 0])), (h2, .inr (2, [.ref h1, .ref h4, .int 0])), (h4, .inr (1, [.ref h16, .ref h17, .ref h18, .int 0, .int 0])), (h16, .inl (cI, 3, .inl (va_cpy zRD (fun _ => 0) 0 0 3)))] := hD
    have hw : r_4 = 0 := hw
    subst hw
    exact W.iret (v := 0) hx hb hr (fun t ht hW => ⟨⟨0, (), rfl, Or.inr (Or.inr (⟨c_1, rfl⟩)), trivial⟩, hS.F ht⟩) hS.2.2 dX10_fault_19
set_option maxHeartbeats 4000000 in
set_option maxRecDepth 100000 in
theorem c_X11_open (l : Launch) (dC : Nat → ClassId) (dI : Nat → Nat → Nat) (cI cJ : ClassId) (h0 h1 h2 h3 h4 h5 h6 h7 h8 h9 h10 h11 h12 h13 h14 h15 h16 h17 h18 h19 h20 h21 h22 h23 : Nat) (sz : Nat) : Met l yX11_open (.code yX11_open cX11_open 2 none :: wA) ({ frames := 0, cells := 0, slots := 0, locals := 0 }) (zP (dC, dI) [(cI, .int), (cJ, .long)] [.ref h0, .int 4] sz [(h0, .inr (11, [.int 0, .ref h1, .int 0, .int 0, .int 0, .int 0, .ref h2, .ref h3, .ref h4, .ref h5, .ref h6, .ref h7, .ref h8, .int 0, .int 0, .ref h9, .ref h10, .ref h11, .ref h12, .ref h13, .int 0, .int 0, .ref h14, .ref h15, .ref h16, .int 0, .int 0, .ref h17, .ref h18, .int (-1), .int 0, .ref h19, .int 0, .long 0, .ref h20, .int 0, .int 0, .ref h21, .ref h22, .ref h23, .int 0])), (h4, .inl (cI, 5, .inl (fun _ => 0))), (h5, .inl (cI, 5, .inl (fun _ => 0)))]) (va_Qv (fun (_ : Unit) => True) (fun (_ : Unit) (t : State) => va_P (dC, dI) vwCl [(h0, .inr (11, [.int 0, .ref h1, .int 0, .int 0, .int (-1), .int 0, .ref h2, .ref h3, .ref h4, .ref h5, .ref h6, .ref h7, .ref h8, .int 0, .int 4, .ref h9, .ref h10, .ref h11, .ref h12, .ref h13, .int 0, .int 0, .ref h14, .ref h15, .ref h16, .int 0, .int 0, .ref h17, .ref h18, .int (-1), .int 0, .ref h19, .int 0, .long 0, .ref h20, .int 0, .int 0, .ref h21, .ref h22, .ref h23, .int 0])), (h4, .inl (cI, 5, .inl (upd (fun _ => 0) 4 0))), (h5, .inl (cI, 5, .inl (upd (fun _ => 0) 4 0)))] t.heap ∧ va_D (va_A [(h0, .inr (11, [.int 0, .ref h1, .int 0, .int 0, .int 0, .int 0, .ref h2, .ref h3, .ref h4, .ref h5, .ref h6, .ref h7, .ref h8, .int 0, .int 0, .ref h9, .ref h10, .ref h11, .ref h12, .ref h13, .int 0, .int 0, .ref h14, .ref h15, .ref h16, .int 0, .int 0, .ref h17, .ref h18, .int (-1), .int 0, .ref h19, .int 0, .long 0, .ref h20, .int 0, .int 0, .ref h21, .ref h22, .ref h23, .int 0])), (h4, .inl (cI, 5, .inl (fun _ => 0))), (h5, .inl (cI, 5, .inl (fun _ => 0)))] sz) [(h0, .inr (11, [.int 0, .ref h1, .int 0, .int 0, .int (-1), .int 0, .ref h2, .ref h3, .ref h4, .ref h5, .ref h6, .ref h7, .ref h8, .int 0, .int 4, .ref h9, .ref h10, .ref h11, .ref h12, .ref h13, .int 0, .int 0, .ref h14, .ref h15, .ref h16, .int 0, .int 0, .ref h17, .ref h18, .int (-1), .int 0, .ref h19, .int 0, .long 0, .ref h20, .int 0, .int 0, .ref h21, .ref h22, .ref h23, .int 0])), (h4, .inl (cI, 5, .inl (upd (fun _ => 0) 4 0))), (h5, .inl (cI, 5, .inl (upd (fun _ => 0) 4 0)))]) (va_A [(h0, .inr (11, [.int 0, .ref h1, .int 0, .int 0, .int 0, .int 0, .ref h2, .ref h3, .ref h4, .ref h5, .ref h6, .ref h7, .ref h8, .int 0, .int 0, .ref h9, .ref h10, .ref h11, .ref h12, .ref h13, .int 0, .int 0, .ref h14, .ref h15, .ref h16, .int 0, .int 0, .ref h17, .ref h18, .int (-1), .int 0, .ref h19, .int 0, .long 0, .ref h20, .int 0, .int 0, .ref h21, .ref h22, .ref h23, .int 0])), (h4, .inl (cI, 5, .inl (fun _ => 0))), (h5, .inl (cI, 5, .inl (fun _ => 0)))] sz)) 0 0 (va_A [(h0, .inr (11, [.int 0, .ref h1, .int 0, .int 0, .int 0, .int 0, .ref h2, .ref h3, .ref h4, .ref h5, .ref h6, .ref h7, .ref h8, .int 0, .int 0, .ref h9, .ref h10, .ref h11, .ref h12, .ref h13, .int 0, .int 0, .ref h14, .ref h15, .ref h16, .int 0, .int 0, .ref h17, .ref h18, .int (-1), .int 0, .ref h19, .int 0, .long 0, .ref h20, .int 0, .int 0, .ref h21, .ref h22, .ref h23, .int 0])), (h4, .inl (cI, 5, .inl (fun _ => 0))), (h5, .inl (cI, 5, .inl (fun _ => 0)))] sz) := by
  refine Met.ofW (cc := cX11_open) (maxL := 2) (ret := none) (by decide) rfl ?_
  intro p e s m args below meth c s₁ B hml hv
  obtain ⟨rfl, hsz, hP, hK, hT⟩ := hv
  have hx := B.exec
  have hb := B.bytes
  have hr := B.returns
  have hts : ∀ w ∈ wA, w.before _ s = true := fun w h => atoms_spec (ws := .code yX11_open cX11_open 2 none :: wA) B.pre w (List.mem_cons_of_mem _ h)
  have hown : s.vm.findClass RX11 = some m.cls := findClass_of_methodNamed B.named
  have hlocks := B.notSynchronized
  subst hsz
  have hD := hT.self (sz := s.heap.size)
  generalize hAe : va_A [(h0, .inr (11, [.int 0, .ref h1, .int 0, .int 0, .int 0, .int 0, .ref h2, .ref h3, .ref h4, .ref h5, .ref h6, .ref h7, .ref h8, .int 0, .int 0, .ref h9, .ref h10, .ref h11, .ref h12, .ref h13, .int 0, .int 0, .ref h14, .ref h15, .ref h16, .int 0, .int 0, .ref h17, .ref h18, .int (-1), .int 0, .ref h19, .int 0, .long 0, .ref h20, .int 0, .int 0, .ref h21, .ref h22, .ref h23, .int 0])), (h4, .inl (cI, 5, .inl (fun _ => 0))), (h5, .inl (cI, 5, .inl (fun _ => 0)))] s.heap.size = A at hD ⊢
  have hA : ∀ q : Nat, s.heap.size ≤ q → A q := fun q h => by rw [← hAe]; exact Or.inr h
  have hl := lv_entry ([.ref h0, .int 4]) (n := 2) (Nat.le_of_ble_eq_true rfl)
  rw [lg_entry_eq]
  generalize (lg_sl ([.ref h0, .int 4]) ++ List.replicate (2 - (lg_sl ([.ref h0, .int 4])).length) Slot.unset).toArray = ls at hl ⊢
  have hl : lv_has ls 2 [(0, .ref h0), (1, .int 4)] := hl
  refine zstart (fun H hH => ?_)
  rw [← hH] at hP
  have hS : va_S A s.heap H [] := by rw [hH]; exact va_S.rf
  refine lv_aload_n hx hb dX11_open_0 rfl (lv_at hl 0 rfl) ?_
  refine lv_iload_n hx hb dX11_open_1 rfl (lv_at hl 1 rfl) ?_
  refine va_put (D := (dC, dI)) (ci := 11) (v := .int 4) (ty := .int) (C := RX11) (T := TX11) (N := 41) hx hb hts iX11 tyX11 tyX11_ok nmX11 hown hK hP hD hS 0 rfl rfl 14 (by decide) (hts _ qw1141) (fun _ h9 => h9) rfl (by decide +kernel) rfl rfl (Nat.le_of_ble_eq_true rfl) dX11_open_2 (fun H locs hP hD hS => ?_)
  have hP : va_P (dC, dI) vwCl [(h0, .inr (11, [.int 0, .ref h1, .int 0, .int 0, .int 0, .int 0, .ref h2, .ref h3, .ref h4, .ref h5, .ref h6, .ref h7, .ref h8, .int 0, .int 4, .ref h9, .ref h10, .ref h11, .ref h12, .ref h13, .int 0, .int 0, .ref h14, .ref h15, .ref h16, .int 0, .int 0, .ref h17, .ref h18, .int (-1), .int 0, .ref h19, .int 0, .long 0, .ref h20, .int 0, .int 0, .ref h21, .ref h22, .ref h23, .int 0])), (h4, .inl (cI, 5, .inl (fun _ => 0))), (h5, .inl (cI, 5, .inl (fun _ => 0)))] H := hP
  have hD : va_D A [(h0, .inr (11, [.int 0, .ref h1, .int 0, .int 0, .int 0, .int 0, .ref h2, .ref h3, .ref h4, .ref h5, .ref h6, .ref h7, .ref h8, .int 0, .int 4, .ref h9, .ref h10, .ref h11, .ref h12, .ref h13, .int 0, .int 0, .ref h14, .ref h15, .ref h16, .int 0, .int 0, .ref h17, .ref h18, .int (-1), .int 0, .ref h19, .int 0, .long 0, .ref h20, .int 0, .int 0, .ref h21, .ref h22, .ref h23, .int 0])), (h4, .inl (cI, 5, .inl (fun _ => 0))), (h5, .inl (cI, 5, .inl (fun _ => 0)))] := hD
  refine lv_aload_n hx hb dX11_open_5 rfl (lv_at hl 0 rfl) ?_
  refine lv_iconst (v := 0) hx hb dX11_open_6 (by decide) ?_
  refine va_put (D := (dC, dI)) (ci := 11) (v := .int 0) (ty := .int) (C := RX11) (T := TX11) (N := 41) hx hb hts iX11 tyX11 tyX11_ok nmX11 hown hK hP hD hS 0 rfl rfl 3 (by decide) (hts _ qw1130) (fun _ h9 => h9) rfl (by decide +kernel) rfl rfl (Nat.le_of_ble_eq_true rfl) dX11_open_7 (fun H locs hP hD hS => ?_)
  have hP : va_P (dC, dI) vwCl [(h0, .inr (11, [.int 0, .ref h1, .int 0, .int 0, .int 0, .int 0, .ref h2, .ref h3, .ref h4, .ref h5, .ref h6, .ref h7, .ref h8, .int 0, .int 4, .ref h9, .ref h10, .ref h11, .ref h12, .ref h13, .int 0, .int 0, .ref h14, .ref h15, .ref h16, .int 0, .int 0, .ref h17, .ref h18, .int (-1), .int 0, .ref h19, .int 0, .long 0, .ref h20, .int 0, .int 0, .ref h21, .ref h22, .ref h23, .int 0])), (h4, .inl (cI, 5, .inl (fun _ => 0))), (h5, .inl (cI, 5, .inl (fun _ => 0)))] H := hP
  have hD : va_D A [(h0, .inr (11, [.int 0, .ref h1, .int 0, .int 0, .int 0, .int 0, .ref h2, .ref h3, .ref h4, .ref h5, .ref h6, .ref h7, .ref h8, .int 0, .int 4, .ref h9, .ref h10, .ref h11, .ref h12, .ref h13, .int 0, .int 0, .ref h14, .ref h15, .ref h16, .int 0, .int 0, .ref h17, .ref h18, .int (-1), .int 0, .ref h19, .int 0, .long 0, .ref h20, .int 0, .int 0, .ref h21, .ref h22, .ref h23, .int 0])), (h4, .inl (cI, 5, .inl (fun _ => 0))), (h5, .inl (cI, 5, .inl (fun _ => 0)))] := hD
  refine lv_aload_n hx hb dX11_open_10 rfl (lv_at hl 0 rfl) ?_
  refine lv_iconst (v := (-1)) hx hb dX11_open_11 (by decide) ?_
  refine va_put (D := (dC, dI)) (ci := 11) (v := .int (-1)) (ty := .int) (C := RX11) (T := TX11) (N := 41) hx hb hts iX11 tyX11 tyX11_ok nmX11 hown hK hP hD hS 0 rfl rfl 4 (by decide) (hts _ qw1131) (fun _ h9 => h9) rfl (by decide +kernel) rfl rfl (Nat.le_of_ble_eq_true rfl) dX11_open_12 (fun H locs hP hD hS => ?_)
  have hP : va_P (dC, dI) vwCl [(h0, .inr (11, [.int 0, .ref h1, .int 0, .int 0, .int (-1), .int 0, .ref h2, .ref h3, .ref h4, .ref h5, .ref h6, .ref h7, .ref h8, .int 0, .int 4, .ref h9, .ref h10, .ref h11, .ref h12, .ref h13, .int 0, .int 0, .ref h14, .ref h15, .ref h16, .int 0, .int 0, .ref h17, .ref h18, .int (-1), .int 0, .ref h19, .int 0, .long 0, .ref h20, .int 0, .int 0, .ref h21, .ref h22, .ref h23, .int 0])), (h4, .inl (cI, 5, .inl (fun _ => 0))), (h5, .inl (cI, 5, .inl (fun _ => 0)))] H := hP
  have hD : va_D A [(h0, .inr (11, [.int 0, .ref h1, .int 0, .int 0, .int (-1), .int 0, .ref h2, .ref h3, .ref h4, .ref h5, .ref h6, .ref h7, .ref h8, .int 0, .int 4, .ref h9, .ref h10, .ref h11, .ref h12, .ref h13, .int 0, .int 0, .ref h14, .ref h15, .ref h16, .int 0, .int 0, .ref h17, .ref h18, .int (-1), .int 0, .ref h19, .int 0, .long 0, .ref h20, .int 0, .int 0, .ref h21, .ref h22, .ref h23, .int 0])), (h4, .inl (cI, 5, .inl (fun _ => 0))), (h5, .inl (cI, 5, .inl (fun _ => 0)))] := hD
  refine lv_aload_n hx hb dX11_open_15 rfl (lv_at hl 0 rfl) ?_
  refine lv_iconst (v := 0) hx hb dX11_open_16 (by decide) ?_
  refine va_put (D := (dC, dI)) (ci := 11) (v := .int 0) (ty := .int) (C := RX11) (T := TX11) (N := 41) hx hb hts iX11 tyX11 tyX11_ok nmX11 hown hK hP hD hS 0 rfl rfl 5 (by decide) (hts _ qw1132) (fun _ h9 => h9) rfl (by decide +kernel) rfl rfl (Nat.le_of_ble_eq_true rfl) dX11_open_17 (fun H locs hP hD hS => ?_)
  have hP : va_P (dC, dI) vwCl [(h0, .inr (11, [.int 0, .ref h1, .int 0, .int 0, .int (-1), .int 0, .ref h2, .ref h3, .ref h4, .ref h5, .ref h6, .ref h7, .ref h8, .int 0, .int 4, .ref h9, .ref h10, .ref h11, .ref h12, .ref h13, .int 0, .int 0, .ref h14, .ref h15, .ref h16, .int 0, .int 0, .ref h17, .ref h18, .int (-1), .int 0, .ref h19, .int 0, .long 0, .ref h20, .int 0, .int 0, .ref h21, .ref h22, .ref h23, .int 0])), (h4, .inl (cI, 5, .inl (fun _ => 0))), (h5, .inl (cI, 5, .inl (fun _ => 0)))] H := hP
  have hD : va_D A [(h0, .inr (11, [.int 0, .ref h1, .int 0, .int 0, .int (-1), .int 0, .ref h2, .ref h3, .ref h4, .ref h5, .ref h6, .ref h7, .ref h8, .int 0, .int 4, .ref h9, .ref h10, .ref h11, .ref h12, .ref h13, .int 0, .int 0, .ref h14, .ref h15, .ref h16, .int 0, .int 0, .ref h17, .ref h18, .int (-1), .int 0, .ref h19, .int 0, .long 0, .ref h20, .int 0, .int 0, .ref h21, .ref h22, .ref h23, .int 0])), (h4, .inl (cI, 5, .inl (fun _ => 0))), (h5, .inl (cI, 5, .inl (fun _ => 0)))] := hD
  refine lv_aload_n hx hb dX11_open_20 rfl (lv_at hl 0 rfl) ?_
  refine va_get (D := (dC, dI)) (ci := 11) (v := .ref h4) (C := RX11) (T := TX11) (N := 41) hx hb hts iX11 hown hK hP 0 rfl rfl 8 (by decide) (hts _ qw1135) (fun _ h9 => h9) rfl dX11_open_21 ?_
  refine lv_iload_n hx hb dX11_open_24 rfl (lv_at hl 1 rfl) ?_
  refine lv_iconst (v := 0) hx hb dX11_open_25 (by decide) ?_
  refine va_iast hx hb hK hP hD hS 1 0 rfl rfl (by unfold vp_in; decide) dX11_open_26 (fun H locs hP hD hS => ?_)
  have hP : va_P (dC, dI) vwCl [(h0, .inr (11, [.int 0, .ref h1, .int 0, .int 0, .int (-1), .int 0, .ref h2, .ref h3, .ref h4, .ref h5, .ref h6, .ref h7, .ref h8, .int 0, .int 4, .ref h9, .ref h10, .ref h11, .ref h12, .ref h13, .int 0, .int 0, .ref h14, .ref h15, .ref h16, .int 0, .int 0, .ref h17, .ref h18, .int (-1), .int 0, .ref h19, .int 0, .long 0, .ref h20, .int 0, .int 0, .ref h21, .ref h22, .ref h23, .int 0])), (h4, .inl (cI, 5, .inl (upd (fun _ => 0) 4 0))), (h5, .inl (cI, 5, .inl (fun _ => 0)))] H := hP
  have hD : va_D A [(h0, .inr (11, [.int 0, .ref h1, .int 0, .int 0, .int (-1), .int 0, .ref h2, .ref h3, .ref h4, .ref h5, .ref h6, .ref h7, .ref h8, .int 0, .int 4, .ref h9, .ref h10, .ref h11, .ref h12, .ref h13, .int 0, .int 0, .ref h14, .ref h15, .ref h16, .int 0, .int 0, .ref h17, .ref h18, .int (-1), .int 0, .ref h19, .int 0, .long 0, .ref h20, .int 0, .int 0, .ref h21, .ref h22, .ref h23, .int 0])), (h4, .inl (cI, 5, .inl (upd (fun _ => 0) 4 0))), (h5, .inl (cI, 5, .inl (fun _ => 0)))] := hD
  refine lv_aload_n hx hb dX11_open_27 rfl (lv_at hl 0 rfl) ?_
  refine va_get (D := (dC, dI)) (ci := 11) (v := .ref h5) (C := RX11) (T := TX11) (N := 41) hx hb hts iX11 hown hK hP 0 rfl rfl 9 (by decide) (hts _ qw1136) (fun _ h9 => h9) rfl dX11_open_28 ?_
  refine lv_iload_n hx hb dX11_open_31 rfl (lv_at hl 1 rfl) ?_
  refine lv_iconst (v := 0) hx hb dX11_open_32 (by decide) ?_
  refine va_iast hx hb hK hP hD hS 2 0 rfl rfl (by unfold vp_in; decide) dX11_open_33 (fun H locs hP hD hS => ?_)
  have hP : va_P (dC, dI) vwCl [(h0, .inr (11, [.int 0, .ref h1, .int 0, .int 0, .int (-1), .int 0, .ref h2, .ref h3, .ref h4, .ref h5, .ref h6, .ref h7, .ref h8, .int 0, .int 4, .ref h9, .ref h10, .ref h11, .ref h12, .ref h13, .int 0, .int 0, .ref h14, .ref h15, .ref h16, .int 0, .int 0, .ref h17, .ref h18, .int (-1), .int 0, .ref h19, .int 0, .long 0, .ref h20, .int 0, .int 0, .ref h21, .ref h22, .ref h23, .int 0])), (h4, .inl (cI, 5, .inl (upd (fun _ => 0) 4 0))), (h5, .inl (cI, 5, .inl (upd (fun _ => 0) 4 0)))] H := hP
  have hD : va_D A [(h0, .inr (11, [.int 0, .ref h1, .int 0, .int 0, .int (-1), .int 0, .ref h2, .ref h3, .ref h4, .ref h5, .ref h6, .ref h7, .ref h8, .int 0, .int 4, .ref h9, .ref h10, .ref h11, .ref h12, .ref h13, .int 0, .int 0, .ref h14, .ref h15, .ref h16, .int 0, .int 0, .ref h17, .ref h18, .int (-1), .int 0, .ref h19, .int 0, .long 0, .ref h20, .int 0, .int 0, .ref h21, .ref h22, .ref h23, .int 0])), (h4, .inl (cI, 5, .inl (upd (fun _ => 0) 4 0))), (h5, .inl (cI, 5, .inl (upd (fun _ => 0) 4 0)))] := hD
  exact W.vret hx hb hr (fun t ht hW => ⟨⟨(), rfl, trivial, ⟨by rw [ht]; exact hP, hD⟩⟩, hS.F ht⟩) hS.2.2 dX11_open_34
set_option maxHeartbeats 4000000 in
set_option maxRecDepth 100000 in
theorem c_X11_here (l : Launch) (dC : Nat → ClassId) (dI : Nat → Nat → Nat) (cI cJ : ClassId) (h0 h1 h2 h3 h4 h5 h6 h7 h8 h9 h10 h11 h12 h13 h14 h15 h16 h17 h18 h19 h20 h21 h22 h23 : Nat) (sz : Nat) : Met l yX11_here (.code yX11_here cX11_here 1 (some .int) :: wA) ({ frames := 0, cells := 0, slots := 0, locals := 0 }) (zP (dC, dI) [(cI, .int), (cJ, .long)] [.ref h0] sz [(h0, .inr (11, [.int 0, .ref h1, .int 0, .int 0, .int (-1), .int 0, .ref h2, .ref h3, .ref h4, .ref h5, .ref h6, .ref h7, .ref h8, .int 0, .int 4, .ref h9, .ref h10, .ref h11, .ref h12, .ref h13, .int 0, .int 0, .ref h14, .ref h15, .ref h16, .int 0, .int 0, .ref h17, .ref h18, .int (-1), .int 0, .ref h19, .int 0, .long 0, .ref h20, .int 0, .int 0, .ref h21, .ref h22, .ref h23, .int 0]))]) (va_Qi (fun (r : Int32) (_ : Unit) => r = (-1)) (fun (_ : Unit) (_ : State) => True) (va_A [] sz)) 0 0 (va_A [] sz) := by
  refine Met.ofW (cc := cX11_here) (maxL := 1) (ret := (some .int)) (by decide) rfl ?_
  intro p e s m args below meth c s₁ B hml hv
  obtain ⟨rfl, hsz, hP, hK, hT⟩ := hv
  have hx := B.exec
  have hb := B.bytes
  have hr := B.returns
  have hts : ∀ w ∈ wA, w.before _ s = true := fun w h => atoms_spec (ws := .code yX11_here cX11_here 1 (some .int) :: wA) B.pre w (List.mem_cons_of_mem _ h)
  have hown : s.vm.findClass RX11 = some m.cls := findClass_of_methodNamed B.named
  have hlocks := B.notSynchronized
  subst hsz
  have hD : va_D (va_A [] s.heap.size) [] := zD0
  generalize hAe : va_A [] s.heap.size = A at hD ⊢
  have hA : ∀ q : Nat, s.heap.size ≤ q → A q := fun q h => by rw [← hAe]; exact Or.inr h
  have hl := lv_entry ([.ref h0]) (n := 1) (Nat.le_of_ble_eq_true rfl)
  rw [lg_entry_eq]
  generalize (lg_sl ([.ref h0]) ++ List.replicate (1 - (lg_sl ([.ref h0])).length) Slot.unset).toArray = ls at hl ⊢
  have hl : lv_has ls 1 [(0, .ref h0)] := hl
  refine zstart (fun H hH => ?_)
  rw [← hH] at hP
  have hS : va_S A s.heap H [] := by rw [hH]; exact va_S.rf
  refine lv_aload_n hx hb dX11_here_0 rfl (lv_at hl 0 rfl) ?_
  refine va_get (D := (dC, dI)) (ci := 11) (v := .int 0) (C := RX11) (T := TX11) (N := 41) hx hb hts iX11 hown hK hP 0 rfl rfl 3 (by decide) (hts _ qw1130) (fun _ h9 => h9) rfl dX11_here_1 ?_
  refine lv_aload_n hx hb dX11_here_4 rfl (lv_at hl 0 rfl) ?_
  refine va_get (D := (dC, dI)) (ci := 11) (v := .int 0) (C := RX11) (T := TX11) (N := 41) hx hb hts iX11 hown hK hP 0 rfl rfl 2 (by decide) (hts _ qw1129) (fun _ h9 => h9) rfl dX11_here_5 ?_
  refine lv_icmp_ge (tgt := 23) hx hb dX11_here_8 (by decide) (fun _ => ?_) (fun c => absurd (by decide) c)
  refine lv_iconst (v := (-1)) hx hb dX11_here_23 (by decide) ?_
  exact W.iret (v := ((-1))) hx hb hr (fun t ht hW => ⟨⟨(-1), (), rfl, rfl, trivial⟩, hS.F ht⟩) hS.2.2 dX11_here_24
set_option maxHeartbeats 4000000 in
set_option maxRecDepth 100000 in
theorem c_X11_look (l : Launch) (dC : Nat → ClassId) (dI : Nat → Nat → Nat) (cI cJ : ClassId) (h0 h1 h2 h3 h4 h5 h6 h7 h8 h9 h10 h11 h12 h13 h14 h15 h16 h17 h18 h19 h20 h21 h22 h23 : Nat) (sz : Nat) : Met l yX11_look (.code yX11_look cX11_look 1 (some .int) :: wA) ({ frames := 1, cells := 0, slots := 0, locals := 20 }) (zP (dC, dI) [(cI, .int), (cJ, .long)] [.ref h0] sz [(h0, .inr (11, [.int 0, .ref h1, .int 0, .int 0, .int (-1), .int 0, .ref h2, .ref h3, .ref h4, .ref h5, .ref h6, .ref h7, .ref h8, .int 0, .int 4, .ref h9, .ref h10, .ref h11, .ref h12, .ref h13, .int 0, .int 0, .ref h14, .ref h15, .ref h16, .int 0, .int 0, .ref h17, .ref h18, .int (-1), .int 0, .ref h19, .int 0, .long 0, .ref h20, .int 0, .int 0, .ref h21, .ref h22, .ref h23, .int 0]))]) (va_Qi (fun (r : Int32) (_ : Unit) => r = (-1)) (fun (_ : Unit) (_ : State) => True) (va_A [] sz)) 0 0 (va_A [] sz) := by
  refine Met.ofW (cc := cX11_look) (maxL := 1) (ret := (some .int)) (by decide) rfl ?_
  intro p e s m args below meth c s₁ B hml hv
  obtain ⟨rfl, hsz, hP, hK, hT⟩ := hv
  have hx := B.exec
  have hb := B.bytes
  have hr := B.returns
  have hts : ∀ w ∈ wA, w.before _ s = true := fun w h => atoms_spec (ws := .code yX11_look cX11_look 1 (some .int) :: wA) B.pre w (List.mem_cons_of_mem _ h)
  have hown : s.vm.findClass RX11 = some m.cls := findClass_of_methodNamed B.named
  have hlocks := B.notSynchronized
  subst hsz
  have hD : va_D (va_A [] s.heap.size) [] := zD0
  generalize hAe : va_A [] s.heap.size = A at hD ⊢
  have hA : ∀ q : Nat, s.heap.size ≤ q → A q := fun q h => by rw [← hAe]; exact Or.inr h
  have hl := lv_entry ([.ref h0]) (n := 1) (Nat.le_of_ble_eq_true rfl)
  rw [lg_entry_eq]
  generalize (lg_sl ([.ref h0]) ++ List.replicate (1 - (lg_sl ([.ref h0])).length) Slot.unset).toArray = ls at hl ⊢
  have hl : lv_has ls 1 [(0, .ref h0)] := hl
  refine zstart (fun H hH => ?_)
  rw [← hH] at hP
  have hS : va_S A s.heap H [] := by rw [hH]; exact va_S.rf
  refine lv_aload_n hx hb dX11_look_0 rfl (lv_at hl 0 rfl) ?_
  have hPc := hP.sub (ws' := [(h0, .inr (11, [.int 0, .ref h1, .int 0, .int 0, .int (-1), .int 0, .ref h2, .ref h3, .ref h4, .ref h5, .ref h6, .ref h7, .ref h8, .int 0, .int 4, .ref h9, .ref h10, .ref h11, .ref h12, .ref h13, .int 0, .int 0, .ref h14, .ref h15, .ref h16, .int 0, .int 0, .ref h17, .ref h18, .int (-1), .int 0, .ref h19, .int 0, .long 0, .ref h20, .int 0, .int 0, .ref h21, .ref h22, .ref h23, .int 0]))]) [0] rfl
  have hDc := hT.sub (ws' := [(h0, .inr (11, [.int 0, .ref h1, .int 0, .int 0, .int (-1), .int 0, .ref h2, .ref h3, .ref h4, .ref h5, .ref h6, .ref h7, .ref h8, .int 0, .int 4, .ref h9, .ref h10, .ref h11, .ref h12, .ref h13, .int 0, .int 0, .ref h14, .ref h15, .ref h16, .int 0, .int 0, .ref h17, .ref h18, .int (-1), .int 0, .ref h19, .int 0, .long 0, .ref h20, .int 0, .int 0, .ref h21, .ref h22, .ref h23, .int 0]))]) [0] (by decide) rfl
  have hFc := zfr hS hA
  refine va_calli (va_runV (As := []) (rest := []) ⟨hx, hb, hml, hown, hts⟩ (c_X11_here l dC dI cI cJ h0 h1 h2 h3 h4 h5 h6 h7 h8 h9 h10 h11 h12 h13 h14 h15 h16 h17 h18 h19 h20 h21 h22 h23 H.size) (cwV 0 hts (zgV qw1281 qw1283 qw33 qw108 qw1284) rfl rfl rfl hd_X11_here ⟨Nat.le_of_ble_eq_true rfl, Nat.le_of_ble_eq_true rfl⟩) (zPV hPc hK hDc (va_recv hK hP (ci := 11) (q0 := 0) rfl rfl)) rfl rfl hl.1 rfl (lv_room (Nat.le_of_ble_eq_true rfl)) dX11_look_1 ⟨Nat.le_of_ble_eq_true rfl, Nat.le_of_ble_eq_true rfl⟩) hS (fun q _ h => hFc q h) hFc (fun r_1 u t H locs ht hvm hw hB hz1 hk1 hS => ?_)
  have hP := zkeep hP hk1
  have hw : r_1 = (-1) := hw
  subst hw
  refine lv_bipush (v := 32) hx hb dX11_look_4 (by decide) ?_
  refine lv_icmp_ne (tgt := 22) hx hb dX11_look_6 (by decide) (fun _ => ?_) (fun c => absurd c (by decide))
  refine lv_aload_n hx hb dX11_look_22 rfl (lv_at hl 0 rfl) ?_
  have hPc := hP.sub (ws' := [(h0, .inr (11, [.int 0, .ref h1, .int 0, .int 0, .int (-1), .int 0, .ref h2, .ref h3, .ref h4, .ref h5, .ref h6, .ref h7, .ref h8, .int 0, .int 4, .ref h9, .ref h10, .ref h11, .ref h12, .ref h13, .int 0, .int 0, .ref h14, .ref h15, .ref h16, .int 0, .int 0, .ref h17, .ref h18, .int (-1), .int 0, .ref h19, .int 0, .long 0, .ref h20, .int 0, .int 0, .ref h21, .ref h22, .ref h23, .int 0]))]) [0] rfl
  have hDc := hT.sub (ws' := [(h0, .inr (11, [.int 0, .ref h1, .int 0, .int 0, .int (-1), .int 0, .ref h2, .ref h3, .ref h4, .ref h5, .ref h6, .ref h7, .ref h8, .int 0, .int 4, .ref h9, .ref h10, .ref h11, .ref h12, .ref h13, .int 0, .int 0, .ref h14, .ref h15, .ref h16, .int 0, .int 0, .ref h17, .ref h18, .int (-1), .int 0, .ref h19, .int 0, .long 0, .ref h20, .int 0, .int 0, .ref h21, .ref h22, .ref h23, .int 0]))]) [0] (by decide) rfl
  have hFc := zfr hS hA
  refine va_calli (va_runV (As := []) (rest := []) ⟨hx, hb, hml, hown, hts⟩ (c_X11_here l dC dI cI cJ h0 h1 h2 h3 h4 h5 h6 h7 h8 h9 h10 h11 h12 h13 h14 h15 h16 h17 h18 h19 h20 h21 h22 h23 H.size) (cwV 0 hts (zgV qw1281 qw1283 qw33 qw108 qw1284) rfl rfl rfl hd_X11_here ⟨Nat.le_of_ble_eq_true rfl, Nat.le_of_ble_eq_true rfl⟩) (zPV hPc hK hDc (va_recv hK hP (ci := 11) (q0 := 0) rfl rfl)) rfl rfl hl.1 rfl (lv_room (Nat.le_of_ble_eq_true rfl)) dX11_look_23 ⟨Nat.le_of_ble_eq_true rfl, Nat.le_of_ble_eq_true rfl⟩) hS (fun q _ h => hFc q h) hFc (fun r_2 u t H locs ht hvm hw hB hz1 hk1 hS => ?_)
  have hP := zkeep hP hk1
  have hw : r_2 = (-1) := hw
  subst hw
  exact W.iret (v := ((-1))) hx hb hr (fun t ht hW => ⟨⟨(-1), (), rfl, rfl, trivial⟩, hS.F ht⟩) hS.2.2 dX11_look_26
set_option maxHeartbeats 4000000 in
set_option maxRecDepth 100000 in
theorem c_X11_bad (l : Launch) (dC : Nat → ClassId) (dI : Nat → Nat → Nat) (cI cJ : ClassId) (h0 h1 h2 h3 h4 h5 h6 h7 h8 h9 h10 h11 h12 h13 h14 h15 h16 h17 h18 h19 h20 h21 h22 h23 : Nat) (sz : Nat) : Met l yX11_bad (.code yX11_bad cX11_bad 1 none :: wA) ({ frames := 0, cells := 0, slots := 0, locals := 0 }) (zP (dC, dI) [(cI, .int), (cJ, .long)] [.ref h0] sz [(h0, .inr (11, [.int 0, .ref h1, .int 0, .int 0, .int (-1), .int 0, .ref h2, .ref h3, .ref h4, .ref h5, .ref h6, .ref h7, .ref h8, .int 0, .int 4, .ref h9, .ref h10, .ref h11, .ref h12, .ref h13, .int 0, .int 0, .ref h14, .ref h15, .ref h16, .int 0, .int 0, .ref h17, .ref h18, .int (-1), .int 0, .ref h19, .int 0, .long 0, .ref h20, .int 0, .int 0, .ref h21, .ref h22, .ref h23, .int 0]))]) (va_Qv (fun (_ : Unit) => True) (fun (_ : Unit) (t : State) => va_P (dC, dI) vwCl [(h0, .inr (11, [.int 0, .ref h1, .int 0, .int 0, .int 0, .int 0, .ref h2, .ref h3, .ref h4, .ref h5, .ref h6, .ref h7, .ref h8, .int 0, .int 4, .ref h9, .ref h10, .ref h11, .ref h12, .ref h13, .int 0, .int 0, .ref h14, .ref h15, .ref h16, .int 0, .int 0, .ref h17, .ref h18, .int (-1), .int 0, .ref h19, .int 0, .long 0, .ref h20, .int 0, .int 0, .ref h21, .ref h22, .ref h23, .int 0]))] t.heap ∧ va_D (va_A [(h0, .inr (11, [.int 0, .ref h1, .int 0, .int 0, .int (-1), .int 0, .ref h2, .ref h3, .ref h4, .ref h5, .ref h6, .ref h7, .ref h8, .int 0, .int 4, .ref h9, .ref h10, .ref h11, .ref h12, .ref h13, .int 0, .int 0, .ref h14, .ref h15, .ref h16, .int 0, .int 0, .ref h17, .ref h18, .int (-1), .int 0, .ref h19, .int 0, .long 0, .ref h20, .int 0, .int 0, .ref h21, .ref h22, .ref h23, .int 0]))] sz) [(h0, .inr (11, [.int 0, .ref h1, .int 0, .int 0, .int 0, .int 0, .ref h2, .ref h3, .ref h4, .ref h5, .ref h6, .ref h7, .ref h8, .int 0, .int 4, .ref h9, .ref h10, .ref h11, .ref h12, .ref h13, .int 0, .int 0, .ref h14, .ref h15, .ref h16, .int 0, .int 0, .ref h17, .ref h18, .int (-1), .int 0, .ref h19, .int 0, .long 0, .ref h20, .int 0, .int 0, .ref h21, .ref h22, .ref h23, .int 0]))]) (va_A [(h0, .inr (11, [.int 0, .ref h1, .int 0, .int 0, .int (-1), .int 0, .ref h2, .ref h3, .ref h4, .ref h5, .ref h6, .ref h7, .ref h8, .int 0, .int 4, .ref h9, .ref h10, .ref h11, .ref h12, .ref h13, .int 0, .int 0, .ref h14, .ref h15, .ref h16, .int 0, .int 0, .ref h17, .ref h18, .int (-1), .int 0, .ref h19, .int 0, .long 0, .ref h20, .int 0, .int 0, .ref h21, .ref h22, .ref h23, .int 0]))] sz)) 0 0 (va_A [(h0, .inr (11, [.int 0, .ref h1, .int 0, .int 0, .int (-1), .int 0, .ref h2, .ref h3, .ref h4, .ref h5, .ref h6, .ref h7, .ref h8, .int 0, .int 4, .ref h9, .ref h10, .ref h11, .ref h12, .ref h13, .int 0, .int 0, .ref h14, .ref h15, .ref h16, .int 0, .int 0, .ref h17, .ref h18, .int (-1), .int 0, .ref h19, .int 0, .long 0, .ref h20, .int 0, .int 0, .ref h21, .ref h22, .ref h23, .int 0]))] sz) := by
  refine Met.ofW (cc := cX11_bad) (maxL := 1) (ret := none) (by decide) rfl ?_
  intro p e s m args below meth c s₁ B hml hv
  obtain ⟨rfl, hsz, hP, hK, hT⟩ := hv
  have hx := B.exec
  have hb := B.bytes
  have hr := B.returns
  have hts : ∀ w ∈ wA, w.before _ s = true := fun w h => atoms_spec (ws := .code yX11_bad cX11_bad 1 none :: wA) B.pre w (List.mem_cons_of_mem _ h)
  have hown : s.vm.findClass RX11 = some m.cls := findClass_of_methodNamed B.named
  have hlocks := B.notSynchronized
  subst hsz
  have hD := hT.self (sz := s.heap.size)
  generalize hAe : va_A [(h0, .inr (11, [.int 0, .ref h1, .int 0, .int 0, .int (-1), .int 0, .ref h2, .ref h3, .ref h4, .ref h5, .ref h6, .ref h7, .ref h8, .int 0, .int 4, .ref h9, .ref h10, .ref h11, .ref h12, .ref h13, .int 0, .int 0, .ref h14, .ref h15, .ref h16, .int 0, .int 0, .ref h17, .ref h18, .int (-1), .int 0, .ref h19, .int 0, .long 0, .ref h20, .int 0, .int 0, .ref h21, .ref h22, .ref h23, .int 0]))] s.heap.size = A at hD ⊢
  have hA : ∀ q : Nat, s.heap.size ≤ q → A q := fun q h => by rw [← hAe]; exact Or.inr h
  have hl := lv_entry ([.ref h0]) (n := 1) (Nat.le_of_ble_eq_true rfl)
  rw [lg_entry_eq]
  generalize (lg_sl ([.ref h0]) ++ List.replicate (1 - (lg_sl ([.ref h0])).length) Slot.unset).toArray = ls at hl ⊢
  have hl : lv_has ls 1 [(0, .ref h0)] := hl
  refine zstart (fun H hH => ?_)
  rw [← hH] at hP
  have hS : va_S A s.heap H [] := by rw [hH]; exact va_S.rf
  refine lv_aload_n hx hb dX11_bad_0 rfl (lv_at hl 0 rfl) ?_
  refine lv_aload_n hx hb dX11_bad_1 rfl (lv_at hl 0 rfl) ?_
  refine va_get (D := (dC, dI)) (ci := 11) (v := .int (-1)) (C := RX11) (T := TX11) (N := 41) hx hb hts iX11 hown hK hP 0 rfl rfl 4 (by decide) (hts _ qw1131) (fun _ h9 => h9) rfl dX11_bad_2 ?_
  refine lv_iconst (v := (-1)) hx hb dX11_bad_5 (by decide) ?_
  refine lv_icmp_ne (tgt := 16) hx hb dX11_bad_6 (by decide) (fun c => absurd (by decide) c) (fun _ => ?_)
  refine lv_aload_n hx hb dX11_bad_9 rfl (lv_at hl 0 rfl) ?_
  refine va_get (D := (dC, dI)) (ci := 11) (v := .int 0) (C := RX11) (T := TX11) (N := 41) hx hb hts iX11 hown hK hP 0 rfl rfl 3 (by decide) (hts _ qw1130) (fun _ h9 => h9) rfl dX11_bad_10 ?_
  refine lv_goto (tgt := 20) hx hb dX11_bad_13 (by decide) ?_
  refine va_put (D := (dC, dI)) (ci := 11) (v := .int 0) (ty := .int) (C := RX11) (T := TX11) (N := 41) hx hb hts iX11 tyX11 tyX11_ok nmX11 hown hK hP hD hS 0 rfl rfl 4 (by decide) (hts _ qw1131) (fun _ h9 => h9) rfl (by decide +kernel) rfl rfl (Nat.le_of_ble_eq_true rfl) dX11_bad_20 (fun H locs hP hD hS => ?_)
  have hP : va_P (dC, dI) vwCl [(h0, .inr (11, [.int 0, .ref h1, .int 0, .int 0, .int 0, .int 0, .ref h2, .ref h3, .ref h4, .ref h5, .ref h6, .ref h7, .ref h8, .int 0, .int 4, .ref h9, .ref h10, .ref h11, .ref h12, .ref h13, .int 0, .int 0, .ref h14, .ref h15, .ref h16, .int 0, .int 0, .ref h17, .ref h18, .int (-1), .int 0, .ref h19, .int 0, .long 0, .ref h20, .int 0, .int 0, .ref h21, .ref h22, .ref h23, .int 0]))] H := hP
  have hD : va_D A [(h0, .inr (11, [.int 0, .ref h1, .int 0, .int 0, .int 0, .int 0, .ref h2, .ref h3, .ref h4, .ref h5, .ref h6, .ref h7, .ref h8, .int 0, .int 4, .ref h9, .ref h10, .ref h11, .ref h12, .ref h13, .int 0, .int 0, .ref h14, .ref h15, .ref h16, .int 0, .int 0, .ref h17, .ref h18, .int (-1), .int 0, .ref h19, .int 0, .long 0, .ref h20, .int 0, .int 0, .ref h21, .ref h22, .ref h23, .int 0]))] := hD
  exact W.vret hx hb hr (fun t ht hW => ⟨⟨(), rfl, trivial, ⟨by rw [ht]; exact hP, hD⟩⟩, hS.F ht⟩) hS.2.2 dX11_bad_23
set_option maxHeartbeats 4000000 in
set_option maxRecDepth 100000 in
theorem c_X11_clause (l : Launch) (dC : Nat → ClassId) (dI : Nat → Nat → Nat) (cI cJ : ClassId) (h0 h1 h2 h3 h4 h5 h6 h7 h8 h9 h10 h11 h12 h13 h14 h15 h16 h17 h18 h19 h20 h21 h22 h23 : Nat) (sz : Nat) : Met l yX11_clause (.code yX11_clause cX11_clause 3 none :: wA) ({ frames := 2, cells := 0, slots := 0, locals := 40 }) (zP (dC, dI) [(cI, .int), (cJ, .long)] [.ref h0] sz [(h0, .inr (11, [.int 0, .ref h1, .int 0, .int 0, .int (-1), .int 0, .ref h2, .ref h3, .ref h4, .ref h5, .ref h6, .ref h7, .ref h8, .int 0, .int 4, .ref h9, .ref h10, .ref h11, .ref h12, .ref h13, .int 0, .int 0, .ref h14, .ref h15, .ref h16, .int 0, .int 0, .ref h17, .ref h18, .int (-1), .int 0, .ref h19, .int 0, .long 0, .ref h20, .int 0, .int 0, .ref h21, .ref h22, .ref h23, .int 0])), (h5, .inl (cI, 5, .inl (upd (fun _ => 0) 4 0)))]) (va_Qv (fun (_ : Unit) => True) (fun (_ : Unit) (t : State) => va_P (dC, dI) vwCl [(h5, .inl (cI, 5, .inl (upd (fun _ => 0) 4 0))), (h0, .inr (11, [.int 0, .ref h1, .int 0, .int 2, .int 0, .int 0, .ref h2, .ref h3, .ref h4, .ref h5, .ref h6, .ref h7, .ref h8, .int 0, .int 4, .ref h9, .ref h10, .ref h11, .ref h12, .ref h13, .int 0, .int 0, .ref h14, .ref h15, .ref h16, .int 0, .int 0, .ref h17, .ref h18, .int (-1), .int 0, .ref h19, .int 0, .long 0, .ref h20, .int 0, .int 0, .ref h21, .ref h22, .ref h23, .int 0]))] t.heap ∧ va_D (va_A [(h0, .inr (11, [.int 0, .ref h1, .int 0, .int 0, .int (-1), .int 0, .ref h2, .ref h3, .ref h4, .ref h5, .ref h6, .ref h7, .ref h8, .int 0, .int 4, .ref h9, .ref h10, .ref h11, .ref h12, .ref h13, .int 0, .int 0, .ref h14, .ref h15, .ref h16, .int 0, .int 0, .ref h17, .ref h18, .int (-1), .int 0, .ref h19, .int 0, .long 0, .ref h20, .int 0, .int 0, .ref h21, .ref h22, .ref h23, .int 0])), (h5, .inl (cI, 5, .inl (upd (fun _ => 0) 4 0)))] sz) [(h5, .inl (cI, 5, .inl (upd (fun _ => 0) 4 0))), (h0, .inr (11, [.int 0, .ref h1, .int 0, .int 2, .int 0, .int 0, .ref h2, .ref h3, .ref h4, .ref h5, .ref h6, .ref h7, .ref h8, .int 0, .int 4, .ref h9, .ref h10, .ref h11, .ref h12, .ref h13, .int 0, .int 0, .ref h14, .ref h15, .ref h16, .int 0, .int 0, .ref h17, .ref h18, .int (-1), .int 0, .ref h19, .int 0, .long 0, .ref h20, .int 0, .int 0, .ref h21, .ref h22, .ref h23, .int 0]))]) (va_A [(h0, .inr (11, [.int 0, .ref h1, .int 0, .int 0, .int (-1), .int 0, .ref h2, .ref h3, .ref h4, .ref h5, .ref h6, .ref h7, .ref h8, .int 0, .int 4, .ref h9, .ref h10, .ref h11, .ref h12, .ref h13, .int 0, .int 0, .ref h14, .ref h15, .ref h16, .int 0, .int 0, .ref h17, .ref h18, .int (-1), .int 0, .ref h19, .int 0, .long 0, .ref h20, .int 0, .int 0, .ref h21, .ref h22, .ref h23, .int 0])), (h5, .inl (cI, 5, .inl (upd (fun _ => 0) 4 0)))] sz)) 0 0 (va_A [(h0, .inr (11, [.int 0, .ref h1, .int 0, .int 0, .int (-1), .int 0, .ref h2, .ref h3, .ref h4, .ref h5, .ref h6, .ref h7, .ref h8, .int 0, .int 4, .ref h9, .ref h10, .ref h11, .ref h12, .ref h13, .int 0, .int 0, .ref h14, .ref h15, .ref h16, .int 0, .int 0, .ref h17, .ref h18, .int (-1), .int 0, .ref h19, .int 0, .long 0, .ref h20, .int 0, .int 0, .ref h21, .ref h22, .ref h23, .int 0])), (h5, .inl (cI, 5, .inl (upd (fun _ => 0) 4 0)))] sz) := by
  refine Met.ofW (cc := cX11_clause) (maxL := 3) (ret := none) (by decide) rfl ?_
  intro p e s m args below meth c s₁ B hml hv
  obtain ⟨rfl, hsz, hP, hK, hT⟩ := hv
  have hx := B.exec
  have hb := B.bytes
  have hr := B.returns
  have hts : ∀ w ∈ wA, w.before _ s = true := fun w h => atoms_spec (ws := .code yX11_clause cX11_clause 3 none :: wA) B.pre w (List.mem_cons_of_mem _ h)
  have hown : s.vm.findClass RX11 = some m.cls := findClass_of_methodNamed B.named
  have hlocks := B.notSynchronized
  subst hsz
  have hD := hT.self (sz := s.heap.size)
  generalize hAe : va_A [(h0, .inr (11, [.int 0, .ref h1, .int 0, .int 0, .int (-1), .int 0, .ref h2, .ref h3, .ref h4, .ref h5, .ref h6, .ref h7, .ref h8, .int 0, .int 4, .ref h9, .ref h10, .ref h11, .ref h12, .ref h13, .int 0, .int 0, .ref h14, .ref h15, .ref h16, .int 0, .int 0, .ref h17, .ref h18, .int (-1), .int 0, .ref h19, .int 0, .long 0, .ref h20, .int 0, .int 0, .ref h21, .ref h22, .ref h23, .int 0])), (h5, .inl (cI, 5, .inl (upd (fun _ => 0) 4 0)))] s.heap.size = A at hD ⊢
  have hA : ∀ q : Nat, s.heap.size ≤ q → A q := fun q h => by rw [← hAe]; exact Or.inr h
  have hl := lv_entry ([.ref h0]) (n := 3) (Nat.le_of_ble_eq_true rfl)
  rw [lg_entry_eq]
  generalize (lg_sl ([.ref h0]) ++ List.replicate (3 - (lg_sl ([.ref h0])).length) Slot.unset).toArray = ls at hl ⊢
  have hl : lv_has ls 3 [(0, .ref h0)] := hl
  refine zstart (fun H hH => ?_)
  rw [← hH] at hP
  have hS : va_S A s.heap H [] := by rw [hH]; exact va_S.rf
  refine lv_sipush (v := 140) hx hb dX11_clause_0 (by decide) ?_
  refine lv_aload_n hx hb dX11_clause_3 rfl (lv_at hl 0 rfl) ?_
  refine va_get (D := (dC, dI)) (ci := 11) (v := .int 4) (C := RX11) (T := TX11) (N := 41) hx hb hts iX11 hown hK hP 0 rfl rfl 14 (by decide) (hts _ qw1141) (fun _ h9 => h9) rfl dX11_clause_4 ?_
  refine lv_imul hx hb dX11_clause_7 ?_
  refine lv_topi (fun v_1 ev_1 => ?_)
  obtain rfl : v_1 = 560 := ev_1.trans (by decide)
  refine lv_aload_n hx hb dX11_clause_8 rfl (lv_at hl 0 rfl) ?_
  refine va_get (D := (dC, dI)) (ci := 11) (v := .ref h5) (C := RX11) (T := TX11) (N := 41) hx hb hts iX11 hown hK hP 0 rfl rfl 9 (by decide) (hts _ qw1136) (fun _ h9 => h9) rfl dX11_clause_9 ?_
  refine lv_aload_n hx hb dX11_clause_12 rfl (lv_at hl 0 rfl) ?_
  refine va_get (D := (dC, dI)) (ci := 11) (v := .int 4) (C := RX11) (T := TX11) (N := 41) hx hb hts iX11 hown hK hP 0 rfl rfl 14 (by decide) (hts _ qw1141) (fun _ h9 => h9) rfl dX11_clause_13 ?_
  refine va_iald hx hb hK hP 1 0 rfl rfl (by unfold vp_in; decide) dX11_clause_16 ?_
  refine lv_topi (fun v_2 ev_2 => ?_)
  obtain rfl : v_2 = 0 := ev_2.trans rfl
  refine lv_iadd hx hb dX11_clause_17 ?_
  refine lv_topi (fun v_3 ev_3 => ?_)
  obtain rfl : v_3 = 560 := ev_3.trans (by decide)
  refine lv_istore_n (lv' := [(1, .int 560), (0, .ref h0)]) hx hb dX11_clause_18 rfl hl (by decide) rfl (fun ls hl => ?_)
  refine lv_aload_n hx hb dX11_clause_19 rfl (lv_at hl 1 rfl) ?_
  refine va_get (D := (dC, dI)) (ci := 11) (v := .int (-1)) (C := RX11) (T := TX11) (N := 41) hx hb hts iX11 hown hK hP 0 rfl rfl 4 (by decide) (hts _ qw1131) (fun _ h9 => h9) rfl dX11_clause_20 ?_
  refine lv_iconst (v := (-1)) hx hb dX11_clause_23 (by decide) ?_
  refine lv_icmp_ne (tgt := 40) hx hb dX11_clause_24 (by decide) (fun c => absurd (by decide) c) (fun _ => ?_)
  refine lv_aload_n hx hb dX11_clause_27 rfl (lv_at hl 1 rfl) ?_
  have hPc := hP.sub (ws' := [(h0, .inr (11, [.int 0, .ref h1, .int 0, .int 0, .int (-1), .int 0, .ref h2, .ref h3, .ref h4, .ref h5, .ref h6, .ref h7, .ref h8, .int 0, .int 4, .ref h9, .ref h10, .ref h11, .ref h12, .ref h13, .int 0, .int 0, .ref h14, .ref h15, .ref h16, .int 0, .int 0, .ref h17, .ref h18, .int (-1), .int 0, .ref h19, .int 0, .long 0, .ref h20, .int 0, .int 0, .ref h21, .ref h22, .ref h23, .int 0]))]) [0] rfl
  have hDc := hD.sub (ws' := [(h0, .inr (11, [.int 0, .ref h1, .int 0, .int 0, .int (-1), .int 0, .ref h2, .ref h3, .ref h4, .ref h5, .ref h6, .ref h7, .ref h8, .int 0, .int 4, .ref h9, .ref h10, .ref h11, .ref h12, .ref h13, .int 0, .int 0, .ref h14, .ref h15, .ref h16, .int 0, .int 0, .ref h17, .ref h18, .int (-1), .int 0, .ref h19, .int 0, .long 0, .ref h20, .int 0, .int 0, .ref h21, .ref h22, .ref h23, .int 0]))]) [0] (by decide) rfl
  have hFc := zfr hS hA
  refine va_calli (va_runV (As := []) (rest := []) ⟨hx, hb, hml, hown, hts⟩ (c_X11_look l dC dI cI cJ h0 h1 h2 h3 h4 h5 h6 h7 h8 h9 h10 h11 h12 h13 h14 h15 h16 h17 h18 h19 h20 h21 h22 h23 H.size) (cwV 0 hts (zgV qw1277 qw1279 qw32 qw108 qw1280) rfl rfl rfl hd_X11_look ⟨Nat.le_of_ble_eq_true rfl, Nat.le_of_ble_eq_true rfl⟩) (zPV hPc hK hDc (va_recv hK hP (ci := 11) (q0 := 0) rfl rfl)) rfl rfl hl.1 rfl (lv_room (Nat.le_of_ble_eq_true rfl)) dX11_clause_28 ⟨Nat.le_of_ble_eq_true rfl, Nat.le_of_ble_eq_true rfl⟩) hS (fun q _ h => hFc q h) hFc (fun r_4 u t H locs ht hvm hw hB hz1 hk1 hS => ?_)
  have hP := zkeep hP hk1
  have hw : r_4 = (-1) := hw
  subst hw
  refine lv_bipush (v := 121) hx hb dX11_clause_31 (by decide) ?_
  refine lv_icmp_eq (tgt := 40) hx hb dX11_clause_33 (by decide) (fun c => absurd c (by decide)) (fun _ => ?_)
  refine lv_aload_n hx hb dX11_clause_36 rfl (lv_at hl 1 rfl) ?_
  have hPc := hP.sub (ws' := [(h0, .inr (11, [.int 0, .ref h1, .int 0, .int 0, .int (-1), .int 0, .ref h2, .ref h3, .ref h4, .ref h5, .ref h6, .ref h7, .ref h8, .int 0, .int 4, .ref h9, .ref h10, .ref h11, .ref h12, .ref h13, .int 0, .int 0, .ref h14, .ref h15, .ref h16, .int 0, .int 0, .ref h17, .ref h18, .int (-1), .int 0, .ref h19, .int 0, .long 0, .ref h20, .int 0, .int 0, .ref h21, .ref h22, .ref h23, .int 0]))]) [0] rfl
  have hDc := hD.sub (ws' := [(h0, .inr (11, [.int 0, .ref h1, .int 0, .int 0, .int (-1), .int 0, .ref h2, .ref h3, .ref h4, .ref h5, .ref h6, .ref h7, .ref h8, .int 0, .int 4, .ref h9, .ref h10, .ref h11, .ref h12, .ref h13, .int 0, .int 0, .ref h14, .ref h15, .ref h16, .int 0, .int 0, .ref h17, .ref h18, .int (-1), .int 0, .ref h19, .int 0, .long 0, .ref h20, .int 0, .int 0, .ref h21, .ref h22, .ref h23, .int 0]))]) [0] (by decide) rfl
  have hFc := va_free (wc := [(h0, .inr (11, [.int 0, .ref h1, .int 0, .int 0, .int (-1), .int 0, .ref h2, .ref h3, .ref h4, .ref h5, .ref h6, .ref h7, .ref h8, .int 0, .int 4, .ref h9, .ref h10, .ref h11, .ref h12, .ref h13, .int 0, .int 0, .ref h14, .ref h15, .ref h16, .int 0, .int 0, .ref h17, .ref h18, .int (-1), .int 0, .ref h19, .int 0, .long 0, .ref h20, .int 0, .int 0, .ref h21, .ref h22, .ref h23, .int 0]))]) hD hS hA [0] rfl
  refine va_callv (va_runV (As := []) (rest := []) ⟨hx, hb, hml, hown, hts⟩ (c_X11_bad l dC dI cI cJ h0 h1 h2 h3 h4 h5 h6 h7 h8 h9 h10 h11 h12 h13 h14 h15 h16 h17 h18 h19 h20 h21 h22 h23 H.size) (cwV 0 hts (zgV qw1305 qw1307 qw36 qw108 qw1308) rfl rfl rfl hd_X11_bad ⟨Nat.le_of_ble_eq_true rfl, Nat.le_of_ble_eq_true rfl⟩) (zPV hPc hK hDc (va_recv hK hP (ci := 11) (q0 := 0) rfl rfl)) rfl rfl hl.1 rfl (lv_room (Nat.le_of_ble_eq_true rfl)) dX11_clause_37 ⟨Nat.le_of_ble_eq_true rfl, Nat.le_of_ble_eq_true rfl⟩) hS (fun q _ h => hFc q h) hFc (fun u t H locs ht hvm hw hB hz1 hk1 hS => ?_)
  obtain ⟨hP1, hD1⟩ := hB
  rw [ht] at hP1
  obtain ⟨hP, hD⟩ := va_join (wr := [(h5, .inl (cI, 5, .inl (upd (fun _ => 0) 4 0)))]) (w1 := [(h0, .inr (11, [.int 0, .ref h1, .int 0, .int 0, .int 0, .int 0, .ref h2, .ref h3, .ref h4, .ref h5, .ref h6, .ref h7, .ref h8, .int 0, .int 4, .ref h9, .ref h10, .ref h11, .ref h12, .ref h13, .int 0, .int 0, .ref h14, .ref h15, .ref h16, .int 0, .int 0, .ref h17, .ref h18, .int (-1), .int 0, .ref h19, .int 0, .long 0, .ref h20, .int 0, .int 0, .ref h21, .ref h22, .ref h23, .int 0]))]) hP hD [0] [1] rfl rfl (by decide) (by decide) hk1 hFc hP1 hD1
  have hP : va_P (dC, dI) vwCl [(h5, .inl (cI, 5, .inl (upd (fun _ => 0) 4 0))), (h0, .inr (11, [.int 0, .ref h1, .int 0, .int 0, .int 0, .int 0, .ref h2, .ref h3, .ref h4, .ref h5, .ref h6, .ref h7, .ref h8, .int 0, .int 4, .ref h9, .ref h10, .ref h11, .ref h12, .ref h13, .int 0, .int 0, .ref h14, .ref h15, .ref h16, .int 0, .int 0, .ref h17, .ref h18, .int (-1), .int 0, .ref h19, .int 0, .long 0, .ref h20, .int 0, .int 0, .ref h21, .ref h22, .ref h23, .int 0]))] H := hP
  have hD : va_D A [(h5, .inl (cI, 5, .inl (upd (fun _ => 0) 4 0))), (h0, .inr (11, [.int 0, .ref h1, .int 0, .int 0, .int 0, .int 0, .ref h2, .ref h3, .ref h4, .ref h5, .ref h6, .ref h7, .ref h8, .int 0, .int 4, .ref h9, .ref h10, .ref h11, .ref h12, .ref h13, .int 0, .int 0, .ref h14, .ref h15, .ref h16, .int 0, .int 0, .ref h17, .ref h18, .int (-1), .int 0, .ref h19, .int 0, .long 0, .ref h20, .int 0, .int 0, .ref h21, .ref h22, .ref h23, .int 0]))] := hD
  refine lv_aload_n hx hb dX11_clause_40 rfl (lv_at hl 1 rfl) ?_
  refine lv_dup hx hb dX11_clause_41 rfl ?_
  refine va_get (D := (dC, dI)) (ci := 11) (v := .int 0) (C := RX11) (T := TX11) (N := 41) hx hb hts iX11 hown hK hP 1 rfl rfl 3 (by decide) (hts _ qw1130) (fun _ h9 => h9) rfl dX11_clause_42 ?_
  refine lv_iconst (v := 1) hx hb dX11_clause_45 (by decide) ?_
  refine lv_iadd hx hb dX11_clause_46 ?_
  refine lv_topi (fun v_6 ev_6 => ?_)
  obtain rfl : v_6 = 1 := ev_6.trans (by decide)
  refine va_put (D := (dC, dI)) (ci := 11) (v := .int 1) (ty := .int) (C := RX11) (T := TX11) (N := 41) hx hb hts iX11 tyX11 tyX11_ok nmX11 hown hK hP hD hS 1 rfl rfl 3 (by decide) (hts _ qw1130) (fun _ h9 => h9) rfl (by decide +kernel) rfl rfl (Nat.le_of_ble_eq_true rfl) dX11_clause_47 (fun H locs hP hD hS => ?_)
  have hP : va_P (dC, dI) vwCl [(h5, .inl (cI, 5, .inl (upd (fun _ => 0) 4 0))), (h0, .inr (11, [.int 0, .ref h1, .int 0, .int 1, .int 0, .int 0, .ref h2, .ref h3, .ref h4, .ref h5, .ref h6, .ref h7, .ref h8, .int 0, .int 4, .ref h9, .ref h10, .ref h11, .ref h12, .ref h13, .int 0, .int 0, .ref h14, .ref h15, .ref h16, .int 0, .int 0, .ref h17, .ref h18, .int (-1), .int 0, .ref h19, .int 0, .long 0, .ref h20, .int 0, .int 0, .ref h21, .ref h22, .ref h23, .int 0]))] H := hP
  have hD : va_D A [(h5, .inl (cI, 5, .inl (upd (fun _ => 0) 4 0))), (h0, .inr (11, [.int 0, .ref h1, .int 0, .int 1, .int 0, .int 0, .ref h2, .ref h3, .ref h4, .ref h5, .ref h6, .ref h7, .ref h8, .int 0, .int 4, .ref h9, .ref h10, .ref h11, .ref h12, .ref h13, .int 0, .int 0, .ref h14, .ref h15, .ref h16, .int 0, .int 0, .ref h17, .ref h18, .int (-1), .int 0, .ref h19, .int 0, .long 0, .ref h20, .int 0, .int 0, .ref h21, .ref h22, .ref h23, .int 0]))] := hD
  refine lv_aload_n hx hb dX11_clause_50 rfl (lv_at hl 1 rfl) ?_
  refine va_get (D := (dC, dI)) (ci := 11) (v := .int 0) (C := RX11) (T := TX11) (N := 41) hx hb hts iX11 hown hK hP 1 rfl rfl 4 (by decide) (hts _ qw1131) (fun _ h9 => h9) rfl dX11_clause_51 ?_
  refine lv_iconst (v := (-1)) hx hb dX11_clause_54 (by decide) ?_
  refine lv_icmp_ne (tgt := 71) hx hb dX11_clause_55 (by decide) (fun _ => ?_) (fun c => absurd c (by decide))
  refine lv_aload_n hx hb dX11_clause_71 rfl (lv_at hl 1 rfl) ?_
  refine lv_dup hx hb dX11_clause_72 rfl ?_
  refine va_get (D := (dC, dI)) (ci := 11) (v := .int 1) (C := RX11) (T := TX11) (N := 41) hx hb hts iX11 hown hK hP 1 rfl rfl 3 (by decide) (hts _ qw1130) (fun _ h9 => h9) rfl dX11_clause_73 ?_
  refine lv_iconst (v := 1) hx hb dX11_clause_76 (by decide) ?_
  refine lv_iadd hx hb dX11_clause_77 ?_
  refine lv_topi (fun v_7 ev_7 => ?_)
  obtain rfl : v_7 = 2 := ev_7.trans (by decide)
  refine va_put (D := (dC, dI)) (ci := 11) (v := .int 2) (ty := .int) (C := RX11) (T := TX11) (N := 41) hx hb hts iX11 tyX11 tyX11_ok nmX11 hown hK hP hD hS 1 rfl rfl 3 (by decide) (hts _ qw1130) (fun _ h9 => h9) rfl (by decide +kernel) rfl rfl (Nat.le_of_ble_eq_true rfl) dX11_clause_78 (fun H locs hP hD hS => ?_)
  have hP : va_P (dC, dI) vwCl [(h5, .inl (cI, 5, .inl (upd (fun _ => 0) 4 0))), (h0, .inr (11, [.int 0, .ref h1, .int 0, .int 2, .int 0, .int 0, .ref h2, .ref h3, .ref h4, .ref h5, .ref h6, .ref h7, .ref h8, .int 0, .int 4, .ref h9, .ref h10, .ref h11, .ref h12, .ref h13, .int 0, .int 0, .ref h14, .ref h15, .ref h16, .int 0, .int 0, .ref h17, .ref h18, .int (-1), .int 0, .ref h19, .int 0, .long 0, .ref h20, .int 0, .int 0, .ref h21, .ref h22, .ref h23, .int 0]))] H := hP
  have hD : va_D A [(h5, .inl (cI, 5, .inl (upd (fun _ => 0) 4 0))), (h0, .inr (11, [.int 0, .ref h1, .int 0, .int 2, .int 0, .int 0, .ref h2, .ref h3, .ref h4, .ref h5, .ref h6, .ref h7, .ref h8, .int 0, .int 4, .ref h9, .ref h10, .ref h11, .ref h12, .ref h13, .int 0, .int 0, .ref h14, .ref h15, .ref h16, .int 0, .int 0, .ref h17, .ref h18, .int (-1), .int 0, .ref h19, .int 0, .long 0, .ref h20, .int 0, .int 0, .ref h21, .ref h22, .ref h23, .int 0]))] := hD
  refine lv_aload_n hx hb dX11_clause_81 rfl (lv_at hl 1 rfl) ?_
  refine va_get (D := (dC, dI)) (ci := 11) (v := .int 0) (C := RX11) (T := TX11) (N := 41) hx hb hts iX11 hown hK hP 1 rfl rfl 4 (by decide) (hts _ qw1131) (fun _ h9 => h9) rfl dX11_clause_82 ?_
  refine lv_iconst (v := (-1)) hx hb dX11_clause_85 (by decide) ?_
  refine lv_icmp_eq (tgt := 90) hx hb dX11_clause_86 (by decide) (fun c => absurd c (by decide)) (fun _ => ?_)
  exact W.vret hx hb hr (fun t ht hW => ⟨⟨(), rfl, trivial, ⟨by rw [ht]; exact hP, hD⟩⟩, hS.F ht⟩) hS.2.2 dX11_clause_89
set_option maxHeartbeats 4000000 in
set_option maxRecDepth 100000 in
theorem c_X11_atEnd (l : Launch) (dC : Nat → ClassId) (dI : Nat → Nat → Nat) (cI cJ : ClassId) (h0 h1 h2 h3 h4 h5 h6 h7 h8 h9 h10 h11 h12 h13 h14 h15 h16 h17 h18 h19 h20 h21 h22 h23 : Nat) (sz : Nat) : Met l yX11_atEnd (.code yX11_atEnd cX11_atEnd 1 (some .int) :: wA) ({ frames := 0, cells := 0, slots := 0, locals := 0 }) (zP (dC, dI) [(cI, .int), (cJ, .long)] [.ref h0] sz [(h0, .inr (11, [.int 0, .ref h1, .int 0, .int 2, .int 0, .int 0, .ref h2, .ref h3, .ref h4, .ref h5, .ref h6, .ref h7, .ref h8, .int 0, .int 4, .ref h9, .ref h10, .ref h11, .ref h12, .ref h13, .int 0, .int 0, .ref h14, .ref h15, .ref h16, .int 0, .int 0, .ref h17, .ref h18, .int (-1), .int 0, .ref h19, .int 0, .long 0, .ref h20, .int 0, .int 0, .ref h21, .ref h22, .ref h23, .int 0]))]) (va_Qi (fun (r : Int32) (_ : Unit) => r = 0) (fun (_ : Unit) (_ : State) => True) (va_A [] sz)) 0 0 (va_A [] sz) := by
  refine Met.ofW (cc := cX11_atEnd) (maxL := 1) (ret := (some .int)) (by decide) rfl ?_
  intro p e s m args below meth c s₁ B hml hv
  obtain ⟨rfl, hsz, hP, hK, hT⟩ := hv
  have hx := B.exec
  have hb := B.bytes
  have hr := B.returns
  have hts : ∀ w ∈ wA, w.before _ s = true := fun w h => atoms_spec (ws := .code yX11_atEnd cX11_atEnd 1 (some .int) :: wA) B.pre w (List.mem_cons_of_mem _ h)
  have hown : s.vm.findClass RX11 = some m.cls := findClass_of_methodNamed B.named
  have hlocks := B.notSynchronized
  subst hsz
  have hD : va_D (va_A [] s.heap.size) [] := zD0
  generalize hAe : va_A [] s.heap.size = A at hD ⊢
  have hA : ∀ q : Nat, s.heap.size ≤ q → A q := fun q h => by rw [← hAe]; exact Or.inr h
  have hl := lv_entry ([.ref h0]) (n := 1) (Nat.le_of_ble_eq_true rfl)
  rw [lg_entry_eq]
  generalize (lg_sl ([.ref h0]) ++ List.replicate (1 - (lg_sl ([.ref h0])).length) Slot.unset).toArray = ls at hl ⊢
  have hl : lv_has ls 1 [(0, .ref h0)] := hl
  refine zstart (fun H hH => ?_)
  rw [← hH] at hP
  have hS : va_S A s.heap H [] := by rw [hH]; exact va_S.rf
  refine lv_aload_n hx hb dX11_atEnd_0 rfl (lv_at hl 0 rfl) ?_
  refine va_get (D := (dC, dI)) (ci := 11) (v := .int 0) (C := RX11) (T := TX11) (N := 41) hx hb hts iX11 hown hK hP 0 rfl rfl 4 (by decide) (hts _ qw1131) (fun _ h9 => h9) rfl dX11_atEnd_1 ?_
  refine lv_iconst (v := (-1)) hx hb dX11_atEnd_4 (by decide) ?_
  refine lv_icmp_ne (tgt := 20) hx hb dX11_atEnd_5 (by decide) (fun _ => ?_) (fun c => absurd c (by decide))
  refine lv_aload_n hx hb dX11_atEnd_20 rfl (lv_at hl 0 rfl) ?_
  refine va_get (D := (dC, dI)) (ci := 11) (v := .int 0) (C := RX11) (T := TX11) (N := 41) hx hb hts iX11 hown hK hP 0 rfl rfl 4 (by decide) (hts _ qw1131) (fun _ h9 => h9) rfl dX11_atEnd_21 ?_
  exact W.iret (v := 0) hx hb hr (fun t ht hW => ⟨⟨0, (), rfl, rfl, trivial⟩, hS.F ht⟩) hS.2.2 dX11_atEnd_24
set_option maxHeartbeats 4000000 in
set_option maxRecDepth 100000 in
theorem c_X11_readLaw (l : Launch) (dC : Nat → ClassId) (dI : Nat → Nat → Nat) (cI cJ : ClassId) (h0 h1 h2 h3 h4 h5 h6 h7 h8 h9 h10 h11 h12 h13 h14 h15 h16 h17 h18 h19 h20 h21 h22 h23 : Nat) (sz : Nat) : Met l yX11_readLaw (.code yX11_readLaw cX11_readLaw 2 (some .int) :: wA) ({ frames := 3, cells := 0, slots := 0, locals := 62 }) (zP (dC, dI) [(cI, .int), (cJ, .long)] [.ref h0, .int 4] sz [(h0, .inr (11, [.int 0, .ref h1, .int 0, .int 0, .int 0, .int 0, .ref h2, .ref h3, .ref h4, .ref h5, .ref h6, .ref h7, .ref h8, .int 0, .int 0, .ref h9, .ref h10, .ref h11, .ref h12, .ref h13, .int 0, .int 0, .ref h14, .ref h15, .ref h16, .int 0, .int 0, .ref h17, .ref h18, .int (-1), .int 0, .ref h19, .int 0, .long 0, .ref h20, .int 0, .int 0, .ref h21, .ref h22, .ref h23, .int 0])), (h4, .inl (cI, 5, .inl (fun _ => 0))), (h5, .inl (cI, 5, .inl (fun _ => 0)))]) (va_Qi (fun (r : Int32) (_ : Unit) => r = 0) (fun (_ : Unit) (t : State) => va_P (dC, dI) vwCl [(h4, .inl (cI, 5, .inl (upd (fun _ => 0) 4 0))), (h5, .inl (cI, 5, .inl (upd (fun _ => 0) 4 0))), (h0, .inr (11, [.int 0, .ref h1, .int 0, .int 2, .int 0, .int 0, .ref h2, .ref h3, .ref h4, .ref h5, .ref h6, .ref h7, .ref h8, .int 0, .int 4, .ref h9, .ref h10, .ref h11, .ref h12, .ref h13, .int 0, .int 0, .ref h14, .ref h15, .ref h16, .int 0, .int 0, .ref h17, .ref h18, .int (-1), .int 0, .ref h19, .int 0, .long 0, .ref h20, .int 0, .int 0, .ref h21, .ref h22, .ref h23, .int 0]))] t.heap ∧ va_D (va_A [(h0, .inr (11, [.int 0, .ref h1, .int 0, .int 0, .int 0, .int 0, .ref h2, .ref h3, .ref h4, .ref h5, .ref h6, .ref h7, .ref h8, .int 0, .int 0, .ref h9, .ref h10, .ref h11, .ref h12, .ref h13, .int 0, .int 0, .ref h14, .ref h15, .ref h16, .int 0, .int 0, .ref h17, .ref h18, .int (-1), .int 0, .ref h19, .int 0, .long 0, .ref h20, .int 0, .int 0, .ref h21, .ref h22, .ref h23, .int 0])), (h4, .inl (cI, 5, .inl (fun _ => 0))), (h5, .inl (cI, 5, .inl (fun _ => 0)))] sz) [(h4, .inl (cI, 5, .inl (upd (fun _ => 0) 4 0))), (h5, .inl (cI, 5, .inl (upd (fun _ => 0) 4 0))), (h0, .inr (11, [.int 0, .ref h1, .int 0, .int 2, .int 0, .int 0, .ref h2, .ref h3, .ref h4, .ref h5, .ref h6, .ref h7, .ref h8, .int 0, .int 4, .ref h9, .ref h10, .ref h11, .ref h12, .ref h13, .int 0, .int 0, .ref h14, .ref h15, .ref h16, .int 0, .int 0, .ref h17, .ref h18, .int (-1), .int 0, .ref h19, .int 0, .long 0, .ref h20, .int 0, .int 0, .ref h21, .ref h22, .ref h23, .int 0]))]) (va_A [(h0, .inr (11, [.int 0, .ref h1, .int 0, .int 0, .int 0, .int 0, .ref h2, .ref h3, .ref h4, .ref h5, .ref h6, .ref h7, .ref h8, .int 0, .int 0, .ref h9, .ref h10, .ref h11, .ref h12, .ref h13, .int 0, .int 0, .ref h14, .ref h15, .ref h16, .int 0, .int 0, .ref h17, .ref h18, .int (-1), .int 0, .ref h19, .int 0, .long 0, .ref h20, .int 0, .int 0, .ref h21, .ref h22, .ref h23, .int 0])), (h4, .inl (cI, 5, .inl (fun _ => 0))), (h5, .inl (cI, 5, .inl (fun _ => 0)))] sz)) 0 0 (va_A [(h0, .inr (11, [.int 0, .ref h1, .int 0, .int 0, .int 0, .int 0, .ref h2, .ref h3, .ref h4, .ref h5, .ref h6, .ref h7, .ref h8, .int 0, .int 0, .ref h9, .ref h10, .ref h11, .ref h12, .ref h13, .int 0, .int 0, .ref h14, .ref h15, .ref h16, .int 0, .int 0, .ref h17, .ref h18, .int (-1), .int 0, .ref h19, .int 0, .long 0, .ref h20, .int 0, .int 0, .ref h21, .ref h22, .ref h23, .int 0])), (h4, .inl (cI, 5, .inl (fun _ => 0))), (h5, .inl (cI, 5, .inl (fun _ => 0)))] sz) := by
  refine Met.ofW (cc := cX11_readLaw) (maxL := 2) (ret := (some .int)) (by decide) rfl ?_
  intro p e s m args below meth c s₁ B hml hv
  obtain ⟨rfl, hsz, hP, hK, hT⟩ := hv
  have hx := B.exec
  have hb := B.bytes
  have hr := B.returns
  have hts : ∀ w ∈ wA, w.before _ s = true := fun w h => atoms_spec (ws := .code yX11_readLaw cX11_readLaw 2 (some .int) :: wA) B.pre w (List.mem_cons_of_mem _ h)
  have hown : s.vm.findClass RX11 = some m.cls := findClass_of_methodNamed B.named
  have hlocks := B.notSynchronized
  subst hsz
  have hD := hT.self (sz := s.heap.size)
  generalize hAe : va_A [(h0, .inr (11, [.int 0, .ref h1, .int 0, .int 0, .int 0, .int 0, .ref h2, .ref h3, .ref h4, .ref h5, .ref h6, .ref h7, .ref h8, .int 0, .int 0, .ref h9, .ref h10, .ref h11, .ref h12, .ref h13, .int 0, .int 0, .ref h14, .ref h15, .ref h16, .int 0, .int 0, .ref h17, .ref h18, .int (-1), .int 0, .ref h19, .int 0, .long 0, .ref h20, .int 0, .int 0, .ref h21, .ref h22, .ref h23, .int 0])), (h4, .inl (cI, 5, .inl (fun _ => 0))), (h5, .inl (cI, 5, .inl (fun _ => 0)))] s.heap.size = A at hD ⊢
  have hA : ∀ q : Nat, s.heap.size ≤ q → A q := fun q h => by rw [← hAe]; exact Or.inr h
  have hl := lv_entry ([.ref h0, .int 4]) (n := 2) (Nat.le_of_ble_eq_true rfl)
  rw [lg_entry_eq]
  generalize (lg_sl ([.ref h0, .int 4]) ++ List.replicate (2 - (lg_sl ([.ref h0, .int 4])).length) Slot.unset).toArray = ls at hl ⊢
  have hl : lv_has ls 2 [(0, .ref h0), (1, .int 4)] := hl
  refine zstart (fun H hH => ?_)
  rw [← hH] at hP
  have hS : va_S A s.heap H [] := by rw [hH]; exact va_S.rf
  refine lv_aload_n hx hb dX11_readLaw_0 rfl (lv_at hl 0 rfl) ?_
  refine lv_iload_n hx hb dX11_readLaw_1 rfl (lv_at hl 1 rfl) ?_
  have hPc := hP.sub (ws' := [(h0, .inr (11, [.int 0, .ref h1, .int 0, .int 0, .int 0, .int 0, .ref h2, .ref h3, .ref h4, .ref h5, .ref h6, .ref h7, .ref h8, .int 0, .int 0, .ref h9, .ref h10, .ref h11, .ref h12, .ref h13, .int 0, .int 0, .ref h14, .ref h15, .ref h16, .int 0, .int 0, .ref h17, .ref h18, .int (-1), .int 0, .ref h19, .int 0, .long 0, .ref h20, .int 0, .int 0, .ref h21, .ref h22, .ref h23, .int 0])), (h4, .inl (cI, 5, .inl (fun _ => 0))), (h5, .inl (cI, 5, .inl (fun _ => 0)))]) [0, 1, 2] rfl
  have hDc := hD.sub (ws' := [(h0, .inr (11, [.int 0, .ref h1, .int 0, .int 0, .int 0, .int 0, .ref h2, .ref h3, .ref h4, .ref h5, .ref h6, .ref h7, .ref h8, .int 0, .int 0, .ref h9, .ref h10, .ref h11, .ref h12, .ref h13, .int 0, .int 0, .ref h14, .ref h15, .ref h16, .int 0, .int 0, .ref h17, .ref h18, .int (-1), .int 0, .ref h19, .int 0, .long 0, .ref h20, .int 0, .int 0, .ref h21, .ref h22, .ref h23, .int 0])), (h4, .inl (cI, 5, .inl (fun _ => 0))), (h5, .inl (cI, 5, .inl (fun _ => 0)))]) [0, 1, 2] (by decide) rfl
  have hFc := va_free (wc := [(h0, .inr (11, [.int 0, .ref h1, .int 0, .int 0, .int 0, .int 0, .ref h2, .ref h3, .ref h4, .ref h5, .ref h6, .ref h7, .ref h8, .int 0, .int 0, .ref h9, .ref h10, .ref h11, .ref h12, .ref h13, .int 0, .int 0, .ref h14, .ref h15, .ref h16, .int 0, .int 0, .ref h17, .ref h18, .int (-1), .int 0, .ref h19, .int 0, .long 0, .ref h20, .int 0, .int 0, .ref h21, .ref h22, .ref h23, .int 0])), (h4, .inl (cI, 5, .inl (fun _ => 0))), (h5, .inl (cI, 5, .inl (fun _ => 0)))]) hD hS hA [0, 1, 2] rfl
  refine va_callv (va_runV (As := [.int 4]) (rest := []) ⟨hx, hb, hml, hown, hts⟩ (c_X11_open l dC dI cI cJ h0 h1 h2 h3 h4 h5 h6 h7 h8 h9 h10 h11 h12 h13 h14 h15 h16 h17 h18 h19 h20 h21 h22 h23 H.size) (cwV 1 hts (zgV qw1316 qw1318 qw38 qw108 qw1319) rfl rfl rfl hd_X11_open ⟨Nat.le_of_ble_eq_true rfl, Nat.le_of_ble_eq_true rfl⟩) (zPV hPc hK hDc (va_recv hK hP (ci := 11) (q0 := 0) rfl rfl)) rfl rfl hl.1 rfl (lv_room (Nat.le_of_ble_eq_true rfl)) dX11_readLaw_2 ⟨Nat.le_of_ble_eq_true rfl, Nat.le_of_ble_eq_true rfl⟩) hS (fun q _ h => hFc q h) hFc (fun u t H locs ht hvm hw hB hz1 hk1 hS => ?_)
  obtain ⟨hP1, hD1⟩ := hB
  rw [ht] at hP1
  obtain ⟨hP, hD⟩ := va_join (wr := []) (w1 := [(h0, .inr (11, [.int 0, .ref h1, .int 0, .int 0, .int (-1), .int 0, .ref h2, .ref h3, .ref h4, .ref h5, .ref h6, .ref h7, .ref h8, .int 0, .int 4, .ref h9, .ref h10, .ref h11, .ref h12, .ref h13, .int 0, .int 0, .ref h14, .ref h15, .ref h16, .int 0, .int 0, .ref h17, .ref h18, .int (-1), .int 0, .ref h19, .int 0, .long 0, .ref h20, .int 0, .int 0, .ref h21, .ref h22, .ref h23, .int 0])), (h4, .inl (cI, 5, .inl (upd (fun _ => 0) 4 0))), (h5, .inl (cI, 5, .inl (upd (fun _ => 0) 4 0)))]) hP hD [0, 1, 2] [] rfl rfl (by decide) (by decide) hk1 hFc hP1 hD1
  have hP : va_P (dC, dI) vwCl [(h0, .inr (11, [.int 0, .ref h1, .int 0, .int 0, .int (-1), .int 0, .ref h2, .ref h3, .ref h4, .ref h5, .ref h6, .ref h7, .ref h8, .int 0, .int 4, .ref h9, .ref h10, .ref h11, .ref h12, .ref h13, .int 0, .int 0, .ref h14, .ref h15, .ref h16, .int 0, .int 0, .ref h17, .ref h18, .int (-1), .int 0, .ref h19, .int 0, .long 0, .ref h20, .int 0, .int 0, .ref h21, .ref h22, .ref h23, .int 0])), (h4, .inl (cI, 5, .inl (upd (fun _ => 0) 4 0))), (h5, .inl (cI, 5, .inl (upd (fun _ => 0) 4 0)))] H := hP
  have hD : va_D A [(h0, .inr (11, [.int 0, .ref h1, .int 0, .int 0, .int (-1), .int 0, .ref h2, .ref h3, .ref h4, .ref h5, .ref h6, .ref h7, .ref h8, .int 0, .int 4, .ref h9, .ref h10, .ref h11, .ref h12, .ref h13, .int 0, .int 0, .ref h14, .ref h15, .ref h16, .int 0, .int 0, .ref h17, .ref h18, .int (-1), .int 0, .ref h19, .int 0, .long 0, .ref h20, .int 0, .int 0, .ref h21, .ref h22, .ref h23, .int 0])), (h4, .inl (cI, 5, .inl (upd (fun _ => 0) 4 0))), (h5, .inl (cI, 5, .inl (upd (fun _ => 0) 4 0)))] := hD
  refine lv_aload_n hx hb dX11_readLaw_5 rfl (lv_at hl 0 rfl) ?_
  have hPc := hP.sub (ws' := [(h0, .inr (11, [.int 0, .ref h1, .int 0, .int 0, .int (-1), .int 0, .ref h2, .ref h3, .ref h4, .ref h5, .ref h6, .ref h7, .ref h8, .int 0, .int 4, .ref h9, .ref h10, .ref h11, .ref h12, .ref h13, .int 0, .int 0, .ref h14, .ref h15, .ref h16, .int 0, .int 0, .ref h17, .ref h18, .int (-1), .int 0, .ref h19, .int 0, .long 0, .ref h20, .int 0, .int 0, .ref h21, .ref h22, .ref h23, .int 0])), (h5, .inl (cI, 5, .inl (upd (fun _ => 0) 4 0)))]) [0, 2] rfl
  have hDc := hD.sub (ws' := [(h0, .inr (11, [.int 0, .ref h1, .int 0, .int 0, .int (-1), .int 0, .ref h2, .ref h3, .ref h4, .ref h5, .ref h6, .ref h7, .ref h8, .int 0, .int 4, .ref h9, .ref h10, .ref h11, .ref h12, .ref h13, .int 0, .int 0, .ref h14, .ref h15, .ref h16, .int 0, .int 0, .ref h17, .ref h18, .int (-1), .int 0, .ref h19, .int 0, .long 0, .ref h20, .int 0, .int 0, .ref h21, .ref h22, .ref h23, .int 0])), (h5, .inl (cI, 5, .inl (upd (fun _ => 0) 4 0)))]) [0, 2] (by decide) rfl
  have hFc := va_free (wc := [(h0, .inr (11, [.int 0, .ref h1, .int 0, .int 0, .int (-1), .int 0, .ref h2, .ref h3, .ref h4, .ref h5, .ref h6, .ref h7, .ref h8, .int 0, .int 4, .ref h9, .ref h10, .ref h11, .ref h12, .ref h13, .int 0, .int 0, .ref h14, .ref h15, .ref h16, .int 0, .int 0, .ref h17, .ref h18, .int (-1), .int 0, .ref h19, .int 0, .long 0, .ref h20, .int 0, .int 0, .ref h21, .ref h22, .ref h23, .int 0])), (h5, .inl (cI, 5, .inl (upd (fun _ => 0) 4 0)))]) hD hS hA [0, 2] rfl
  refine va_callv (va_runV (As := []) (rest := []) ⟨hx, hb, hml, hown, hts⟩ (c_X11_clause l dC dI cI cJ h0 h1 h2 h3 h4 h5 h6 h7 h8 h9 h10 h11 h12 h13 h14 h15 h16 h17 h18 h19 h20 h21 h22 h23 H.size) (cwV 0 hts (zgV qw1320 qw1322 qw39 qw108 qw1323) rfl rfl rfl hd_X11_clause ⟨Nat.le_of_ble_eq_true rfl, Nat.le_of_ble_eq_true rfl⟩) (zPV hPc hK hDc (va_recv hK hP (ci := 11) (q0 := 0) rfl rfl)) rfl rfl hl.1 rfl (lv_room (Nat.le_of_ble_eq_true rfl)) dX11_readLaw_6 ⟨Nat.le_of_ble_eq_true rfl, Nat.le_of_ble_eq_true rfl⟩) hS (fun q _ h => hFc q h) hFc (fun u t H locs ht hvm hw hB hz1 hk1 hS => ?_)
  obtain ⟨hP1, hD1⟩ := hB
  rw [ht] at hP1
  obtain ⟨hP, hD⟩ := va_join (wr := [(h4, .inl (cI, 5, .inl (upd (fun _ => 0) 4 0)))]) (w1 := [(h5, .inl (cI, 5, .inl (upd (fun _ => 0) 4 0))), (h0, .inr (11, [.int 0, .ref h1, .int 0, .int 2, .int 0, .int 0, .ref h2, .ref h3, .ref h4, .ref h5, .ref h6, .ref h7, .ref h8, .int 0, .int 4, .ref h9, .ref h10, .ref h11, .ref h12, .ref h13, .int 0, .int 0, .ref h14, .ref h15, .ref h16, .int 0, .int 0, .ref h17, .ref h18, .int (-1), .int 0, .ref h19, .int 0, .long 0, .ref h20, .int 0, .int 0, .ref h21, .ref h22, .ref h23, .int 0]))]) hP hD [0, 2] [1] rfl rfl (by decide) (by decide) hk1 hFc hP1 hD1
  have hP : va_P (dC, dI) vwCl [(h4, .inl (cI, 5, .inl (upd (fun _ => 0) 4 0))), (h5, .inl (cI, 5, .inl (upd (fun _ => 0) 4 0))), (h0, .inr (11, [.int 0, .ref h1, .int 0, .int 2, .int 0, .int 0, .ref h2, .ref h3, .ref h4, .ref h5, .ref h6, .ref h7, .ref h8, .int 0, .int 4, .ref h9, .ref h10, .ref h11, .ref h12, .ref h13, .int 0, .int 0, .ref h14, .ref h15, .ref h16, .int 0, .int 0, .ref h17, .ref h18, .int (-1), .int 0, .ref h19, .int 0, .long 0, .ref h20, .int 0, .int 0, .ref h21, .ref h22, .ref h23, .int 0]))] H := hP
  have hD : va_D A [(h4, .inl (cI, 5, .inl (upd (fun _ => 0) 4 0))), (h5, .inl (cI, 5, .inl (upd (fun _ => 0) 4 0))), (h0, .inr (11, [.int 0, .ref h1, .int 0, .int 2, .int 0, .int 0, .ref h2, .ref h3, .ref h4, .ref h5, .ref h6, .ref h7, .ref h8, .int 0, .int 4, .ref h9, .ref h10, .ref h11, .ref h12, .ref h13, .int 0, .int 0, .ref h14, .ref h15, .ref h16, .int 0, .int 0, .ref h17, .ref h18, .int (-1), .int 0, .ref h19, .int 0, .long 0, .ref h20, .int 0, .int 0, .ref h21, .ref h22, .ref h23, .int 0]))] := hD
  refine lv_aload_n hx hb dX11_readLaw_9 rfl (lv_at hl 0 rfl) ?_
  refine va_get (D := (dC, dI)) (ci := 11) (v := .int 0) (C := RX11) (T := TX11) (N := 41) hx hb hts iX11 hown hK hP 2 rfl rfl 4 (by decide) (hts _ qw1131) (fun _ h9 => h9) rfl dX11_readLaw_10 ?_
  refine lv_iconst (v := (-1)) hx hb dX11_readLaw_13 (by decide) ?_
  refine lv_icmp_ne (tgt := 43) hx hb dX11_readLaw_14 (by decide) (fun _ => ?_) (fun c => absurd c (by decide))
  refine lv_aload_n hx hb dX11_readLaw_43 rfl (lv_at hl 0 rfl) ?_
  have hPc := hP.sub (ws' := [(h0, .inr (11, [.int 0, .ref h1, .int 0, .int 2, .int 0, .int 0, .ref h2, .ref h3, .ref h4, .ref h5, .ref h6, .ref h7, .ref h8, .int 0, .int 4, .ref h9, .ref h10, .ref h11, .ref h12, .ref h13, .int 0, .int 0, .ref h14, .ref h15, .ref h16, .int 0, .int 0, .ref h17, .ref h18, .int (-1), .int 0, .ref h19, .int 0, .long 0, .ref h20, .int 0, .int 0, .ref h21, .ref h22, .ref h23, .int 0]))]) [2] rfl
  have hDc := hD.sub (ws' := [(h0, .inr (11, [.int 0, .ref h1, .int 0, .int 2, .int 0, .int 0, .ref h2, .ref h3, .ref h4, .ref h5, .ref h6, .ref h7, .ref h8, .int 0, .int 4, .ref h9, .ref h10, .ref h11, .ref h12, .ref h13, .int 0, .int 0, .ref h14, .ref h15, .ref h16, .int 0, .int 0, .ref h17, .ref h18, .int (-1), .int 0, .ref h19, .int 0, .long 0, .ref h20, .int 0, .int 0, .ref h21, .ref h22, .ref h23, .int 0]))]) [2] (by decide) rfl
  have hFc := zfr hS hA
  refine va_calli (va_runV (As := []) (rest := []) ⟨hx, hb, hml, hown, hts⟩ (c_X11_atEnd l dC dI cI cJ h0 h1 h2 h3 h4 h5 h6 h7 h8 h9 h10 h11 h12 h13 h14 h15 h16 h17 h18 h19 h20 h21 h22 h23 H.size) (cwV 0 hts (zgV qw1378 qw1380 qw52 qw108 qw1381) rfl rfl rfl hd_X11_atEnd ⟨Nat.le_of_ble_eq_true rfl, Nat.le_of_ble_eq_true rfl⟩) (zPV hPc hK hDc (va_recv hK hP (ci := 11) (q0 := 2) rfl rfl)) rfl rfl hl.1 rfl (lv_room (Nat.le_of_ble_eq_true rfl)) dX11_readLaw_44 ⟨Nat.le_of_ble_eq_true rfl, Nat.le_of_ble_eq_true rfl⟩) hS (fun q _ h => hFc q h) hFc (fun r_3 u t H locs ht hvm hw hB hz1 hk1 hS => ?_)
  have hP := zkeep hP hk1
  have hw : r_3 = 0 := hw
  subst hw
  exact W.iret (v := 0) hx hb hr (fun t ht hW => ⟨⟨0, (), rfl, rfl, ⟨by rw [ht]; exact hP, hD⟩⟩, hS.F ht⟩) hS.2.2 dX11_readLaw_47
set_option maxHeartbeats 4000000 in
set_option maxRecDepth 100000 in
theorem c_X11_usual (l : Launch) (dC : Nat → ClassId) (dI : Nat → Nat → Nat) (cI cJ : ClassId) (sz : Nat) : Met l yX11_usual (.code yX11_usual cX11_usual 2 (some .int) :: wA) ({ frames := 0, cells := 0, slots := 0, locals := 0 }) (zP (dC, dI) [(cI, .int), (cJ, .long)] [.int 115, .int 0] sz []) (va_Qi (fun (r : Int32) (_ : Unit) => r = 40) (fun (_ : Unit) (_ : State) => True) (va_A [] sz)) 0 0 (va_A [] sz) := by
  refine Met.ofW (cc := cX11_usual) (maxL := 2) (ret := (some .int)) (by decide) rfl ?_
  intro p e s m args below meth c s₁ B hml hv
  obtain ⟨rfl, hsz, hP, hK, hT⟩ := hv
  have hx := B.exec
  have hb := B.bytes
  have hr := B.returns
  have hts : ∀ w ∈ wA, w.before _ s = true := fun w h => atoms_spec (ws := .code yX11_usual cX11_usual 2 (some .int) :: wA) B.pre w (List.mem_cons_of_mem _ h)
  have hown : s.vm.findClass RX11 = some m.cls := findClass_of_methodNamed B.named
  have hlocks := B.notSynchronized
  subst hsz
  have hD : va_D (va_A [] s.heap.size) [] := zD0
  generalize hAe : va_A [] s.heap.size = A at hD ⊢
  have hA : ∀ q : Nat, s.heap.size ≤ q → A q := fun q h => by rw [← hAe]; exact Or.inr h
  have hl := lv_entry ([.int 115, .int 0]) (n := 2) (Nat.le_of_ble_eq_true rfl)
  rw [lg_entry_eq]
  generalize (lg_sl ([.int 115, .int 0]) ++ List.replicate (2 - (lg_sl ([.int 115, .int 0])).length) Slot.unset).toArray = ls at hl ⊢
  have hl : lv_has ls 2 [(0, .int 115), (1, .int 0)] := hl
  refine zstart (fun H hH => ?_)
  rw [← hH] at hP
  have hS : va_S A s.heap H [] := by rw [hH]; exact va_S.rf
  refine lv_iload_n hx hb dX11_usual_0 rfl (lv_at hl 0 rfl) ?_
  refine lv_lookup (off := 27) (tgt := 28) hx hb dX11_usual_1 (by decide) (by decide) (by decide) ?_
  refine lv_iload_n hx hb dX11_usual_28 rfl (lv_at hl 1 rfl) ?_
  refine lv_if_ne (tgt := 37) hx hb dX11_usual_29 (by decide) (fun c => absurd (by decide) c) (fun _ => ?_)
  refine lv_bipush (v := 40) hx hb dX11_usual_32 (by decide) ?_
  refine lv_goto (tgt := 47) hx hb dX11_usual_34 (by decide) ?_
  exact W.iret (v := 40) hx hb hr (fun t ht hW => ⟨⟨40, (), rfl, rfl, trivial⟩, hS.F ht⟩) hS.2.2 dX11_usual_47
set_option maxHeartbeats 4000000 in
set_option maxRecDepth 100000 in
theorem c_X11_usual_1 (l : Launch) (dC : Nat → ClassId) (dI : Nat → Nat → Nat) (cI cJ : ClassId) (sz : Nat) : Met l yX11_usual (.code yX11_usual cX11_usual 2 (some .int) :: wA) ({ frames := 0, cells := 0, slots := 0, locals := 0 }) (zP (dC, dI) [(cI, .int), (cJ, .long)] [.int 115, .int 1] sz []) (va_Qi (fun (r : Int32) (_ : Unit) => r = 5) (fun (_ : Unit) (_ : State) => True) (va_A [] sz)) 0 0 (va_A [] sz) := by
  refine Met.ofW (cc := cX11_usual) (maxL := 2) (ret := (some .int)) (by decide) rfl ?_
  intro p e s m args below meth c s₁ B hml hv
  obtain ⟨rfl, hsz, hP, hK, hT⟩ := hv
  have hx := B.exec
  have hb := B.bytes
  have hr := B.returns
  have hts : ∀ w ∈ wA, w.before _ s = true := fun w h => atoms_spec (ws := .code yX11_usual cX11_usual 2 (some .int) :: wA) B.pre w (List.mem_cons_of_mem _ h)
  have hown : s.vm.findClass RX11 = some m.cls := findClass_of_methodNamed B.named
  have hlocks := B.notSynchronized
  subst hsz
  have hD : va_D (va_A [] s.heap.size) [] := zD0
  generalize hAe : va_A [] s.heap.size = A at hD ⊢
  have hA : ∀ q : Nat, s.heap.size ≤ q → A q := fun q h => by rw [← hAe]; exact Or.inr h
  have hl := lv_entry ([.int 115, .int 1]) (n := 2) (Nat.le_of_ble_eq_true rfl)
  rw [lg_entry_eq]
  generalize (lg_sl ([.int 115, .int 1]) ++ List.replicate (2 - (lg_sl ([.int 115, .int 1])).length) Slot.unset).toArray = ls at hl ⊢
  have hl : lv_has ls 2 [(0, .int 115), (1, .int 1)] := hl
  refine zstart (fun H hH => ?_)
  rw [← hH] at hP
  have hS : va_S A s.heap H [] := by rw [hH]; exact va_S.rf
  refine lv_iload_n hx hb dX11_usual_0 rfl (lv_at hl 0 rfl) ?_
  refine lv_lookup (off := 27) (tgt := 28) hx hb dX11_usual_1 (by decide) (by decide) (by decide) ?_
  refine lv_iload_n hx hb dX11_usual_28 rfl (lv_at hl 1 rfl) ?_
  refine lv_if_ne (tgt := 37) hx hb dX11_usual_29 (by decide) (fun _ => ?_) (fun c => absurd c (by decide))
  refine lv_iload_n hx hb dX11_usual_37 rfl (lv_at hl 1 rfl) ?_
  refine lv_iconst (v := 1) hx hb dX11_usual_38 (by decide) ?_
  refine lv_icmp_ne (tgt := 46) hx hb dX11_usual_39 (by decide) (fun c => absurd (by decide) c) (fun _ => ?_)
  refine lv_iconst (v := 5) hx hb dX11_usual_42 (by decide) ?_
  refine lv_goto (tgt := 47) hx hb dX11_usual_43 (by decide) ?_
  exact W.iret (v := 5) hx hb hr (fun t ht hW => ⟨⟨5, (), rfl, rfl, trivial⟩, hS.F ht⟩) hS.2.2 dX11_usual_47
set_option maxHeartbeats 4000000 in
set_option maxRecDepth 100000 in
theorem c_X11_usual_2 (l : Launch) (dC : Nat → ClassId) (dI : Nat → Nat → Nat) (cI cJ : ClassId) (sz : Nat) : Met l yX11_usual (.code yX11_usual cX11_usual 2 (some .int) :: wA) ({ frames := 0, cells := 0, slots := 0, locals := 0 }) (zP (dC, dI) [(cI, .int), (cJ, .long)] [.int 115, .int 2] sz []) (va_Qi (fun (r : Int32) (_ : Unit) => r = 3) (fun (_ : Unit) (_ : State) => True) (va_A [] sz)) 0 0 (va_A [] sz) := by
  refine Met.ofW (cc := cX11_usual) (maxL := 2) (ret := (some .int)) (by decide) rfl ?_
  intro p e s m args below meth c s₁ B hml hv
  obtain ⟨rfl, hsz, hP, hK, hT⟩ := hv
  have hx := B.exec
  have hb := B.bytes
  have hr := B.returns
  have hts : ∀ w ∈ wA, w.before _ s = true := fun w h => atoms_spec (ws := .code yX11_usual cX11_usual 2 (some .int) :: wA) B.pre w (List.mem_cons_of_mem _ h)
  have hown : s.vm.findClass RX11 = some m.cls := findClass_of_methodNamed B.named
  have hlocks := B.notSynchronized
  subst hsz
  have hD : va_D (va_A [] s.heap.size) [] := zD0
  generalize hAe : va_A [] s.heap.size = A at hD ⊢
  have hA : ∀ q : Nat, s.heap.size ≤ q → A q := fun q h => by rw [← hAe]; exact Or.inr h
  have hl := lv_entry ([.int 115, .int 2]) (n := 2) (Nat.le_of_ble_eq_true rfl)
  rw [lg_entry_eq]
  generalize (lg_sl ([.int 115, .int 2]) ++ List.replicate (2 - (lg_sl ([.int 115, .int 2])).length) Slot.unset).toArray = ls at hl ⊢
  have hl : lv_has ls 2 [(0, .int 115), (1, .int 2)] := hl
  refine zstart (fun H hH => ?_)
  rw [← hH] at hP
  have hS : va_S A s.heap H [] := by rw [hH]; exact va_S.rf
  refine lv_iload_n hx hb dX11_usual_0 rfl (lv_at hl 0 rfl) ?_
  refine lv_lookup (off := 27) (tgt := 28) hx hb dX11_usual_1 (by decide) (by decide) (by decide) ?_
  refine lv_iload_n hx hb dX11_usual_28 rfl (lv_at hl 1 rfl) ?_
  refine lv_if_ne (tgt := 37) hx hb dX11_usual_29 (by decide) (fun _ => ?_) (fun c => absurd c (by decide))
  refine lv_iload_n hx hb dX11_usual_37 rfl (lv_at hl 1 rfl) ?_
  refine lv_iconst (v := 1) hx hb dX11_usual_38 (by decide) ?_
  refine lv_icmp_ne (tgt := 46) hx hb dX11_usual_39 (by decide) (fun _ => ?_) (fun c => absurd c (by decide))
  refine lv_iconst (v := 3) hx hb dX11_usual_46 (by decide) ?_
  exact W.iret (v := 3) hx hb hr (fun t ht hW => ⟨⟨3, (), rfl, rfl, trivial⟩, hS.F ht⟩) hS.2.2 dX11_usual_47
set_option maxHeartbeats 4000000 in
set_option maxRecDepth 100000 in
theorem c_X11_here_1 (l : Launch) (dC : Nat → ClassId) (dI : Nat → Nat → Nat) (cI cJ : ClassId) (h0 h1 h2 h3 h4 h5 h6 h7 h8 h9 h10 h11 h12 h13 h14 h15 h16 h17 h18 h19 h20 h21 h22 h23 : Nat) (sz : Nat) : Met l yX11_here (.code yX11_here cX11_here 1 (some .int) :: wA) ({ frames := 0, cells := 0, slots := 0, locals := 0 }) (zP (dC, dI) [(cI, .int), (cJ, .long)] [.ref h0] sz [(h0, .inr (11, [.int 0, .ref h1, .int 0, .int 0, .int (-1), .int 0, .ref h2, .ref h3, .ref h4, .ref h5, .ref h6, .ref h7, .ref h8, .int 0, .int 0, .ref h9, .ref h10, .ref h11, .ref h12, .ref h13, .int 0, .int 0, .ref h14, .ref h15, .ref h16, .int 0, .int 0, .ref h17, .ref h18, .int (-1), .int 0, .ref h19, .int 0, .long 0, .ref h20, .int 0, .int 0, .ref h21, .ref h22, .ref h23, .int 0]))]) (va_Qi (fun (r : Int32) (_ : Unit) => r = (-1)) (fun (_ : Unit) (_ : State) => True) (va_A [] sz)) 0 0 (va_A [] sz) := by
  refine Met.ofW (cc := cX11_here) (maxL := 1) (ret := (some .int)) (by decide) rfl ?_
  intro p e s m args below meth c s₁ B hml hv
  obtain ⟨rfl, hsz, hP, hK, hT⟩ := hv
  have hx := B.exec
  have hb := B.bytes
  have hr := B.returns
  have hts : ∀ w ∈ wA, w.before _ s = true := fun w h => atoms_spec (ws := .code yX11_here cX11_here 1 (some .int) :: wA) B.pre w (List.mem_cons_of_mem _ h)
  have hown : s.vm.findClass RX11 = some m.cls := findClass_of_methodNamed B.named
  have hlocks := B.notSynchronized
  subst hsz
  have hD : va_D (va_A [] s.heap.size) [] := zD0
  generalize hAe : va_A [] s.heap.size = A at hD ⊢
  have hA : ∀ q : Nat, s.heap.size ≤ q → A q := fun q h => by rw [← hAe]; exact Or.inr h
  have hl := lv_entry ([.ref h0]) (n := 1) (Nat.le_of_ble_eq_true rfl)
  rw [lg_entry_eq]
  generalize (lg_sl ([.ref h0]) ++ List.replicate (1 - (lg_sl ([.ref h0])).length) Slot.unset).toArray = ls at hl ⊢
  have hl : lv_has ls 1 [(0, .ref h0)] := hl
  refine zstart (fun H hH => ?_)
  rw [← hH] at hP
  have hS : va_S A s.heap H [] := by rw [hH]; exact va_S.rf
  refine lv_aload_n hx hb dX11_here_0 rfl (lv_at hl 0 rfl) ?_
  refine va_get (D := (dC, dI)) (ci := 11) (v := .int 0) (C := RX11) (T := TX11) (N := 41) hx hb hts iX11 hown hK hP 0 rfl rfl 3 (by decide) (hts _ qw1130) (fun _ h9 => h9) rfl dX11_here_1 ?_
  refine lv_aload_n hx hb dX11_here_4 rfl (lv_at hl 0 rfl) ?_
  refine va_get (D := (dC, dI)) (ci := 11) (v := .int 0) (C := RX11) (T := TX11) (N := 41) hx hb hts iX11 hown hK hP 0 rfl rfl 2 (by decide) (hts _ qw1129) (fun _ h9 => h9) rfl dX11_here_5 ?_
  refine lv_icmp_ge (tgt := 23) hx hb dX11_here_8 (by decide) (fun _ => ?_) (fun c => absurd (by decide) c)
  refine lv_iconst (v := (-1)) hx hb dX11_here_23 (by decide) ?_
  exact W.iret (v := ((-1))) hx hb hr (fun t ht hW => ⟨⟨(-1), (), rfl, rfl, trivial⟩, hS.F ht⟩) hS.2.2 dX11_here_24
set_option maxHeartbeats 4000000 in
set_option maxRecDepth 100000 in
theorem c_X11_look_1 (l : Launch) (dC : Nat → ClassId) (dI : Nat → Nat → Nat) (cI cJ : ClassId) (h0 h1 h2 h3 h4 h5 h6 h7 h8 h9 h10 h11 h12 h13 h14 h15 h16 h17 h18 h19 h20 h21 h22 h23 : Nat) (sz : Nat) : Met l yX11_look (.code yX11_look cX11_look 1 (some .int) :: wA) ({ frames := 1, cells := 0, slots := 0, locals := 20 }) (zP (dC, dI) [(cI, .int), (cJ, .long)] [.ref h0] sz [(h0, .inr (11, [.int 0, .ref h1, .int 0, .int 0, .int (-1), .int 0, .ref h2, .ref h3, .ref h4, .ref h5, .ref h6, .ref h7, .ref h8, .int 0, .int 0, .ref h9, .ref h10, .ref h11, .ref h12, .ref h13, .int 0, .int 0, .ref h14, .ref h15, .ref h16, .int 0, .int 0, .ref h17, .ref h18, .int (-1), .int 0, .ref h19, .int 0, .long 0, .ref h20, .int 0, .int 0, .ref h21, .ref h22, .ref h23, .int 0]))]) (va_Qi (fun (r : Int32) (_ : Unit) => r = (-1)) (fun (_ : Unit) (_ : State) => True) (va_A [] sz)) 0 0 (va_A [] sz) := by
  refine Met.ofW (cc := cX11_look) (maxL := 1) (ret := (some .int)) (by decide) rfl ?_
  intro p e s m args below meth c s₁ B hml hv
  obtain ⟨rfl, hsz, hP, hK, hT⟩ := hv
  have hx := B.exec
  have hb := B.bytes
  have hr := B.returns
  have hts : ∀ w ∈ wA, w.before _ s = true := fun w h => atoms_spec (ws := .code yX11_look cX11_look 1 (some .int) :: wA) B.pre w (List.mem_cons_of_mem _ h)
  have hown : s.vm.findClass RX11 = some m.cls := findClass_of_methodNamed B.named
  have hlocks := B.notSynchronized
  subst hsz
  have hD : va_D (va_A [] s.heap.size) [] := zD0
  generalize hAe : va_A [] s.heap.size = A at hD ⊢
  have hA : ∀ q : Nat, s.heap.size ≤ q → A q := fun q h => by rw [← hAe]; exact Or.inr h
  have hl := lv_entry ([.ref h0]) (n := 1) (Nat.le_of_ble_eq_true rfl)
  rw [lg_entry_eq]
  generalize (lg_sl ([.ref h0]) ++ List.replicate (1 - (lg_sl ([.ref h0])).length) Slot.unset).toArray = ls at hl ⊢
  have hl : lv_has ls 1 [(0, .ref h0)] := hl
  refine zstart (fun H hH => ?_)
  rw [← hH] at hP
  have hS : va_S A s.heap H [] := by rw [hH]; exact va_S.rf
  refine lv_aload_n hx hb dX11_look_0 rfl (lv_at hl 0 rfl) ?_
  have hPc := hP.sub (ws' := [(h0, .inr (11, [.int 0, .ref h1, .int 0, .int 0, .int (-1), .int 0, .ref h2, .ref h3, .ref h4, .ref h5, .ref h6, .ref h7, .ref h8, .int 0, .int 0, .ref h9, .ref h10, .ref h11, .ref h12, .ref h13, .int 0, .int 0, .ref h14, .ref h15, .ref h16, .int 0, .int 0, .ref h17, .ref h18, .int (-1), .int 0, .ref h19, .int 0, .long 0, .ref h20, .int 0, .int 0, .ref h21, .ref h22, .ref h23, .int 0]))]) [0] rfl
  have hDc := hT.sub (ws' := [(h0, .inr (11, [.int 0, .ref h1, .int 0, .int 0, .int (-1), .int 0, .ref h2, .ref h3, .ref h4, .ref h5, .ref h6, .ref h7, .ref h8, .int 0, .int 0, .ref h9, .ref h10, .ref h11, .ref h12, .ref h13, .int 0, .int 0, .ref h14, .ref h15, .ref h16, .int 0, .int 0, .ref h17, .ref h18, .int (-1), .int 0, .ref h19, .int 0, .long 0, .ref h20, .int 0, .int 0, .ref h21, .ref h22, .ref h23, .int 0]))]) [0] (by decide) rfl
  have hFc := zfr hS hA
  refine va_calli (va_runV (As := []) (rest := []) ⟨hx, hb, hml, hown, hts⟩ (c_X11_here_1 l dC dI cI cJ h0 h1 h2 h3 h4 h5 h6 h7 h8 h9 h10 h11 h12 h13 h14 h15 h16 h17 h18 h19 h20 h21 h22 h23 H.size) (cwV 0 hts (zgV qw1281 qw1283 qw33 qw108 qw1284) rfl rfl rfl hd_X11_here ⟨Nat.le_of_ble_eq_true rfl, Nat.le_of_ble_eq_true rfl⟩) (zPV hPc hK hDc (va_recv hK hP (ci := 11) (q0 := 0) rfl rfl)) rfl rfl hl.1 rfl (lv_room (Nat.le_of_ble_eq_true rfl)) dX11_look_1 ⟨Nat.le_of_ble_eq_true rfl, Nat.le_of_ble_eq_true rfl⟩) hS (fun q _ h => hFc q h) hFc (fun r_1 u t H locs ht hvm hw hB hz1 hk1 hS => ?_)
  have hP := zkeep hP hk1
  have hw : r_1 = (-1) := hw
  subst hw
  refine lv_bipush (v := 32) hx hb dX11_look_4 (by decide) ?_
  refine lv_icmp_ne (tgt := 22) hx hb dX11_look_6 (by decide) (fun _ => ?_) (fun c => absurd c (by decide))
  refine lv_aload_n hx hb dX11_look_22 rfl (lv_at hl 0 rfl) ?_
  have hPc := hP.sub (ws' := [(h0, .inr (11, [.int 0, .ref h1, .int 0, .int 0, .int (-1), .int 0, .ref h2, .ref h3, .ref h4, .ref h5, .ref h6, .ref h7, .ref h8, .int 0, .int 0, .ref h9, .ref h10, .ref h11, .ref h12, .ref h13, .int 0, .int 0, .ref h14, .ref h15, .ref h16, .int 0, .int 0, .ref h17, .ref h18, .int (-1), .int 0, .ref h19, .int 0, .long 0, .ref h20, .int 0, .int 0, .ref h21, .ref h22, .ref h23, .int 0]))]) [0] rfl
  have hDc := hT.sub (ws' := [(h0, .inr (11, [.int 0, .ref h1, .int 0, .int 0, .int (-1), .int 0, .ref h2, .ref h3, .ref h4, .ref h5, .ref h6, .ref h7, .ref h8, .int 0, .int 0, .ref h9, .ref h10, .ref h11, .ref h12, .ref h13, .int 0, .int 0, .ref h14, .ref h15, .ref h16, .int 0, .int 0, .ref h17, .ref h18, .int (-1), .int 0, .ref h19, .int 0, .long 0, .ref h20, .int 0, .int 0, .ref h21, .ref h22, .ref h23, .int 0]))]) [0] (by decide) rfl
  have hFc := zfr hS hA
  refine va_calli (va_runV (As := []) (rest := []) ⟨hx, hb, hml, hown, hts⟩ (c_X11_here_1 l dC dI cI cJ h0 h1 h2 h3 h4 h5 h6 h7 h8 h9 h10 h11 h12 h13 h14 h15 h16 h17 h18 h19 h20 h21 h22 h23 H.size) (cwV 0 hts (zgV qw1281 qw1283 qw33 qw108 qw1284) rfl rfl rfl hd_X11_here ⟨Nat.le_of_ble_eq_true rfl, Nat.le_of_ble_eq_true rfl⟩) (zPV hPc hK hDc (va_recv hK hP (ci := 11) (q0 := 0) rfl rfl)) rfl rfl hl.1 rfl (lv_room (Nat.le_of_ble_eq_true rfl)) dX11_look_23 ⟨Nat.le_of_ble_eq_true rfl, Nat.le_of_ble_eq_true rfl⟩) hS (fun q _ h => hFc q h) hFc (fun r_2 u t H locs ht hvm hw hB hz1 hk1 hS => ?_)
  have hP := zkeep hP hk1
  have hw : r_2 = (-1) := hw
  subst hw
  exact W.iret (v := ((-1))) hx hb hr (fun t ht hW => ⟨⟨(-1), (), rfl, rfl, trivial⟩, hS.F ht⟩) hS.2.2 dX11_look_26
set_option maxHeartbeats 4000000 in
set_option maxRecDepth 100000 in
theorem c_X11_bad_1 (l : Launch) (dC : Nat → ClassId) (dI : Nat → Nat → Nat) (cI cJ : ClassId) (h0 h1 h2 h3 h4 h5 h6 h7 h8 h9 h10 h11 h12 h13 h14 h15 h16 h17 h18 h19 h20 h21 h22 h23 : Nat) (sz : Nat) : Met l yX11_bad (.code yX11_bad cX11_bad 1 none :: wA) ({ frames := 0, cells := 0, slots := 0, locals := 0 }) (zP (dC, dI) [(cI, .int), (cJ, .long)] [.ref h0] sz [(h0, .inr (11, [.int 0, .ref h1, .int 0, .int 0, .int (-1), .int 0, .ref h2, .ref h3, .ref h4, .ref h5, .ref h6, .ref h7, .ref h8, .int 0, .int 0, .ref h9, .ref h10, .ref h11, .ref h12, .ref h13, .int 0, .int 0, .ref h14, .ref h15, .ref h16, .int 0, .int 0, .ref h17, .ref h18, .int (-1), .int 0, .ref h19, .int 0, .long 0, .ref h20, .int 0, .int 0, .ref h21, .ref h22, .ref h23, .int 0]))]) (va_Qv (fun (_ : Unit) => True) (fun (_ : Unit) (t : State) => va_P (dC, dI) vwCl [(h0, .inr (11, [.int 0, .ref h1, .int 0, .int 0, .int 0, .int 0, .ref h2, .ref h3, .ref h4, .ref h5, .ref h6, .ref h7, .ref h8, .int 0, .int 0, .ref h9, .ref h10, .ref h11, .ref h12, .ref h13, .int 0, .int 0, .ref h14, .ref h15, .ref h16, .int 0, .int 0, .ref h17, .ref h18, .int (-1), .int 0, .ref h19, .int 0, .long 0, .ref h20, .int 0, .int 0, .ref h21, .ref h22, .ref h23, .int 0]))] t.heap ∧ va_D (va_A [(h0, .inr (11, [.int 0, .ref h1, .int 0, .int 0, .int (-1), .int 0, .ref h2, .ref h3, .ref h4, .ref h5, .ref h6, .ref h7, .ref h8, .int 0, .int 0, .ref h9, .ref h10, .ref h11, .ref h12, .ref h13, .int 0, .int 0, .ref h14, .ref h15, .ref h16, .int 0, .int 0, .ref h17, .ref h18, .int (-1), .int 0, .ref h19, .int 0, .long 0, .ref h20, .int 0, .int 0, .ref h21, .ref h22, .ref h23, .int 0]))] sz) [(h0, .inr (11, [.int 0, .ref h1, .int 0, .int 0, .int 0, .int 0, .ref h2, .ref h3, .ref h4, .ref h5, .ref h6, .ref h7, .ref h8, .int 0, .int 0, .ref h9, .ref h10, .ref h11, .ref h12, .ref h13, .int 0, .int 0, .ref h14, .ref h15, .ref h16, .int 0, .int 0, .ref h17, .ref h18, .int (-1), .int 0, .ref h19, .int 0, .long 0, .ref h20, .int 0, .int 0, .ref h21, .ref h22, .ref h23, .int 0]))]) (va_A [(h0, .inr (11, [.int 0, .ref h1, .int 0, .int 0, .int (-1), .int 0, .ref h2, .ref h3, .ref h4, .ref h5, .ref h6, .ref h7, .ref h8, .int 0, .int 0, .ref h9, .ref h10, .ref h11, .ref h12, .ref h13, .int 0, .int 0, .ref h14, .ref h15, .ref h16, .int 0, .int 0, .ref h17, .ref h18, .int (-1), .int 0, .ref h19, .int 0, .long 0, .ref h20, .int 0, .int 0, .ref h21, .ref h22, .ref h23, .int 0]))] sz)) 0 0 (va_A [(h0, .inr (11, [.int 0, .ref h1, .int 0, .int 0, .int (-1), .int 0, .ref h2, .ref h3, .ref h4, .ref h5, .ref h6, .ref h7, .ref h8, .int 0, .int 0, .ref h9, .ref h10, .ref h11, .ref h12, .ref h13, .int 0, .int 0, .ref h14, .ref h15, .ref h16, .int 0, .int 0, .ref h17, .ref h18, .int (-1), .int 0, .ref h19, .int 0, .long 0, .ref h20, .int 0, .int 0, .ref h21, .ref h22, .ref h23, .int 0]))] sz) := by
  refine Met.ofW (cc := cX11_bad) (maxL := 1) (ret := none) (by decide) rfl ?_
  intro p e s m args below meth c s₁ B hml hv
  obtain ⟨rfl, hsz, hP, hK, hT⟩ := hv
  have hx := B.exec
  have hb := B.bytes
  have hr := B.returns
  have hts : ∀ w ∈ wA, w.before _ s = true := fun w h => atoms_spec (ws := .code yX11_bad cX11_bad 1 none :: wA) B.pre w (List.mem_cons_of_mem _ h)
  have hown : s.vm.findClass RX11 = some m.cls := findClass_of_methodNamed B.named
  have hlocks := B.notSynchronized
  subst hsz
  have hD := hT.self (sz := s.heap.size)
  generalize hAe : va_A [(h0, .inr (11, [.int 0, .ref h1, .int 0, .int 0, .int (-1), .int 0, .ref h2, .ref h3, .ref h4, .ref h5, .ref h6, .ref h7, .ref h8, .int 0, .int 0, .ref h9, .ref h10, .ref h11, .ref h12, .ref h13, .int 0, .int 0, .ref h14, .ref h15, .ref h16, .int 0, .int 0, .ref h17, .ref h18, .int (-1), .int 0, .ref h19, .int 0, .long 0, .ref h20, .int 0, .int 0, .ref h21, .ref h22, .ref h23, .int 0]))] s.heap.size = A at hD ⊢
  have hA : ∀ q : Nat, s.heap.size ≤ q → A q := fun q h => by rw [← hAe]; exact Or.inr h
  have hl := lv_entry ([.ref h0]) (n := 1) (Nat.le_of_ble_eq_true rfl)
  rw [lg_entry_eq]
  generalize (lg_sl ([.ref h0]) ++ List.replicate (1 - (lg_sl ([.ref h0])).length) Slot.unset).toArray = ls at hl ⊢
  have hl : lv_has ls 1 [(0, .ref h0)] := hl
  refine zstart (fun H hH => ?_)
  rw [← hH] at hP
  have hS : va_S A s.heap H [] := by rw [hH]; exact va_S.rf
  refine lv_aload_n hx hb dX11_bad_0 rfl (lv_at hl 0 rfl) ?_
  refine lv_aload_n hx hb dX11_bad_1 rfl (lv_at hl 0 rfl) ?_
  refine va_get (D := (dC, dI)) (ci := 11) (v := .int (-1)) (C := RX11) (T := TX11) (N := 41) hx hb hts iX11 hown hK hP 0 rfl rfl 4 (by decide) (hts _ qw1131) (fun _ h9 => h9) rfl dX11_bad_2 ?_
  refine lv_iconst (v := (-1)) hx hb dX11_bad_5 (by decide) ?_
  refine lv_icmp_ne (tgt := 16) hx hb dX11_bad_6 (by decide) (fun c => absurd (by decide) c) (fun _ => ?_)
  refine lv_aload_n hx hb dX11_bad_9 rfl (lv_at hl 0 rfl) ?_
  refine va_get (D := (dC, dI)) (ci := 11) (v := .int 0) (C := RX11) (T := TX11) (N := 41) hx hb hts iX11 hown hK hP 0 rfl rfl 3 (by decide) (hts _ qw1130) (fun _ h9 => h9) rfl dX11_bad_10 ?_
  refine lv_goto (tgt := 20) hx hb dX11_bad_13 (by decide) ?_
  refine va_put (D := (dC, dI)) (ci := 11) (v := .int 0) (ty := .int) (C := RX11) (T := TX11) (N := 41) hx hb hts iX11 tyX11 tyX11_ok nmX11 hown hK hP hD hS 0 rfl rfl 4 (by decide) (hts _ qw1131) (fun _ h9 => h9) rfl (by decide +kernel) rfl rfl (Nat.le_of_ble_eq_true rfl) dX11_bad_20 (fun H locs hP hD hS => ?_)
  have hP : va_P (dC, dI) vwCl [(h0, .inr (11, [.int 0, .ref h1, .int 0, .int 0, .int 0, .int 0, .ref h2, .ref h3, .ref h4, .ref h5, .ref h6, .ref h7, .ref h8, .int 0, .int 0, .ref h9, .ref h10, .ref h11, .ref h12, .ref h13, .int 0, .int 0, .ref h14, .ref h15, .ref h16, .int 0, .int 0, .ref h17, .ref h18, .int (-1), .int 0, .ref h19, .int 0, .long 0, .ref h20, .int 0, .int 0, .ref h21, .ref h22, .ref h23, .int 0]))] H := hP
  have hD : va_D A [(h0, .inr (11, [.int 0, .ref h1, .int 0, .int 0, .int 0, .int 0, .ref h2, .ref h3, .ref h4, .ref h5, .ref h6, .ref h7, .ref h8, .int 0, .int 0, .ref h9, .ref h10, .ref h11, .ref h12, .ref h13, .int 0, .int 0, .ref h14, .ref h15, .ref h16, .int 0, .int 0, .ref h17, .ref h18, .int (-1), .int 0, .ref h19, .int 0, .long 0, .ref h20, .int 0, .int 0, .ref h21, .ref h22, .ref h23, .int 0]))] := hD
  exact W.vret hx hb hr (fun t ht hW => ⟨⟨(), rfl, trivial, ⟨by rw [ht]; exact hP, hD⟩⟩, hS.F ht⟩) hS.2.2 dX11_bad_23
set_option maxHeartbeats 4000000 in
set_option maxRecDepth 100000 in
theorem c_X11_readCourt (l : Launch) (dC : Nat → ClassId) (dI : Nat → Nat → Nat) (cI cJ : ClassId) (h0 h1 h2 h3 h4 h5 h6 h7 h8 h9 h10 h11 h12 h13 h14 h15 h16 h17 h18 h19 h20 h21 h22 h23 : Nat) (sz : Nat) : Met l yX11_readCourt (.code yX11_readCourt cX11_readCourt 4 (some .int) :: wA) ({ frames := 2, cells := 0, slots := 0, locals := 40 }) (zP (dC, dI) [(cI, .int), (cJ, .long)] [.ref h0] sz [(h0, .inr (11, [.int 0, .ref h1, .int 0, .int 0, .int 0, .int 0, .ref h2, .ref h3, .ref h4, .ref h5, .ref h6, .ref h7, .ref h8, .int 0, .int 0, .ref h9, .ref h10, .ref h11, .ref h12, .ref h13, .int 0, .int 0, .ref h14, .ref h15, .ref h16, .int 0, .int 0, .ref h17, .ref h18, .int (-1), .int 0, .ref h19, .int 0, .long 0, .ref h20, .int 0, .int 0, .ref h21, .ref h22, .ref h23, .int 0])), (h11, .inl (cI, 3, .inl (fun _ => 0)))]) (va_Qi (fun (r : Int32) (_ : Unit) => r = 0) (fun (_ : Unit) (t : State) => va_P (dC, dI) vwCl [(h11, .inl (cI, 3, .inl (upd (upd (upd (fun _ => 0) 0 40) 1 5) 2 3))), (h0, .inr (11, [.int 0, .ref h1, .int 0, .int 0, .int 0, .int 0, .ref h2, .ref h3, .ref h4, .ref h5, .ref h6, .ref h7, .ref h8, .int 0, .int 0, .ref h9, .ref h10, .ref h11, .ref h12, .ref h13, .int 0, .int 0, .ref h14, .ref h15, .ref h16, .int 0, .int 0, .ref h17, .ref h18, .int (-1), .int 0, .ref h19, .int 0, .long 0, .ref h20, .int 0, .int 0, .ref h21, .ref h22, .ref h23, .int 0]))] t.heap ∧ va_D (va_A [(h0, .inr (11, [.int 0, .ref h1, .int 0, .int 0, .int 0, .int 0, .ref h2, .ref h3, .ref h4, .ref h5, .ref h6, .ref h7, .ref h8, .int 0, .int 0, .ref h9, .ref h10, .ref h11, .ref h12, .ref h13, .int 0, .int 0, .ref h14, .ref h15, .ref h16, .int 0, .int 0, .ref h17, .ref h18, .int (-1), .int 0, .ref h19, .int 0, .long 0, .ref h20, .int 0, .int 0, .ref h21, .ref h22, .ref h23, .int 0])), (h11, .inl (cI, 3, .inl (fun _ => 0)))] sz) [(h11, .inl (cI, 3, .inl (upd (upd (upd (fun _ => 0) 0 40) 1 5) 2 3))), (h0, .inr (11, [.int 0, .ref h1, .int 0, .int 0, .int 0, .int 0, .ref h2, .ref h3, .ref h4, .ref h5, .ref h6, .ref h7, .ref h8, .int 0, .int 0, .ref h9, .ref h10, .ref h11, .ref h12, .ref h13, .int 0, .int 0, .ref h14, .ref h15, .ref h16, .int 0, .int 0, .ref h17, .ref h18, .int (-1), .int 0, .ref h19, .int 0, .long 0, .ref h20, .int 0, .int 0, .ref h21, .ref h22, .ref h23, .int 0]))]) (va_A [(h0, .inr (11, [.int 0, .ref h1, .int 0, .int 0, .int 0, .int 0, .ref h2, .ref h3, .ref h4, .ref h5, .ref h6, .ref h7, .ref h8, .int 0, .int 0, .ref h9, .ref h10, .ref h11, .ref h12, .ref h13, .int 0, .int 0, .ref h14, .ref h15, .ref h16, .int 0, .int 0, .ref h17, .ref h18, .int (-1), .int 0, .ref h19, .int 0, .long 0, .ref h20, .int 0, .int 0, .ref h21, .ref h22, .ref h23, .int 0])), (h11, .inl (cI, 3, .inl (fun _ => 0)))] sz)) 0 0 (va_A [(h0, .inr (11, [.int 0, .ref h1, .int 0, .int 0, .int 0, .int 0, .ref h2, .ref h3, .ref h4, .ref h5, .ref h6, .ref h7, .ref h8, .int 0, .int 0, .ref h9, .ref h10, .ref h11, .ref h12, .ref h13, .int 0, .int 0, .ref h14, .ref h15, .ref h16, .int 0, .int 0, .ref h17, .ref h18, .int (-1), .int 0, .ref h19, .int 0, .long 0, .ref h20, .int 0, .int 0, .ref h21, .ref h22, .ref h23, .int 0])), (h11, .inl (cI, 3, .inl (fun _ => 0)))] sz) := by
  refine Met.ofW (cc := cX11_readCourt) (maxL := 4) (ret := (some .int)) (by decide) rfl ?_
  intro p e s m args below meth c s₁ B hml hv
  obtain ⟨rfl, hsz, hP, hK, hT⟩ := hv
  have hx := B.exec
  have hb := B.bytes
  have hr := B.returns
  have hts : ∀ w ∈ wA, w.before _ s = true := fun w h => atoms_spec (ws := .code yX11_readCourt cX11_readCourt 4 (some .int) :: wA) B.pre w (List.mem_cons_of_mem _ h)
  have hown : s.vm.findClass RX11 = some m.cls := findClass_of_methodNamed B.named
  have hlocks := B.notSynchronized
  subst hsz
  have hD := hT.self (sz := s.heap.size)
  generalize hAe : va_A [(h0, .inr (11, [.int 0, .ref h1, .int 0, .int 0, .int 0, .int 0, .ref h2, .ref h3, .ref h4, .ref h5, .ref h6, .ref h7, .ref h8, .int 0, .int 0, .ref h9, .ref h10, .ref h11, .ref h12, .ref h13, .int 0, .int 0, .ref h14, .ref h15, .ref h16, .int 0, .int 0, .ref h17, .ref h18, .int (-1), .int 0, .ref h19, .int 0, .long 0, .ref h20, .int 0, .int 0, .ref h21, .ref h22, .ref h23, .int 0])), (h11, .inl (cI, 3, .inl (fun _ => 0)))] s.heap.size = A at hD ⊢
  have hA : ∀ q : Nat, s.heap.size ≤ q → A q := fun q h => by rw [← hAe]; exact Or.inr h
  have hl := lv_entry ([.ref h0]) (n := 4) (Nat.le_of_ble_eq_true rfl)
  rw [lg_entry_eq]
  generalize (lg_sl ([.ref h0]) ++ List.replicate (4 - (lg_sl ([.ref h0])).length) Slot.unset).toArray = ls at hl ⊢
  have hl : lv_has ls 4 [(0, .ref h0)] := hl
  refine zstart (fun H hH => ?_)
  rw [← hH] at hP
  have hS : va_S A s.heap H [] := by rw [hH]; exact va_S.rf
  refine lv_aload_n hx hb dX11_readCourt_0 rfl (lv_at hl 0 rfl) ?_
  refine lv_iconst (v := 0) hx hb dX11_readCourt_1 (by decide) ?_
  refine va_put (D := (dC, dI)) (ci := 11) (v := .int 0) (ty := .int) (C := RX11) (T := TX11) (N := 41) hx hb hts iX11 tyX11 tyX11_ok nmX11 hown hK hP hD hS 0 rfl rfl 3 (by decide) (hts _ qw1130) (fun _ h9 => h9) rfl (by decide +kernel) rfl rfl (Nat.le_of_ble_eq_true rfl) dX11_readCourt_2 (fun H locs hP hD hS => ?_)
  have hP : va_P (dC, dI) vwCl [(h0, .inr (11, [.int 0, .ref h1, .int 0, .int 0, .int 0, .int 0, .ref h2, .ref h3, .ref h4, .ref h5, .ref h6, .ref h7, .ref h8, .int 0, .int 0, .ref h9, .ref h10, .ref h11, .ref h12, .ref h13, .int 0, .int 0, .ref h14, .ref h15, .ref h16, .int 0, .int 0, .ref h17, .ref h18, .int (-1), .int 0, .ref h19, .int 0, .long 0, .ref h20, .int 0, .int 0, .ref h21, .ref h22, .ref h23, .int 0])), (h11, .inl (cI, 3, .inl (fun _ => 0)))] H := hP
  have hD : va_D A [(h0, .inr (11, [.int 0, .ref h1, .int 0, .int 0, .int 0, .int 0, .ref h2, .ref h3, .ref h4, .ref h5, .ref h6, .ref h7, .ref h8, .int 0, .int 0, .ref h9, .ref h10, .ref h11, .ref h12, .ref h13, .int 0, .int 0, .ref h14, .ref h15, .ref h16, .int 0, .int 0, .ref h17, .ref h18, .int (-1), .int 0, .ref h19, .int 0, .long 0, .ref h20, .int 0, .int 0, .ref h21, .ref h22, .ref h23, .int 0])), (h11, .inl (cI, 3, .inl (fun _ => 0)))] := hD
  refine lv_aload_n hx hb dX11_readCourt_5 rfl (lv_at hl 0 rfl) ?_
  refine lv_iconst (v := (-1)) hx hb dX11_readCourt_6 (by decide) ?_
  refine va_put (D := (dC, dI)) (ci := 11) (v := .int (-1)) (ty := .int) (C := RX11) (T := TX11) (N := 41) hx hb hts iX11 tyX11 tyX11_ok nmX11 hown hK hP hD hS 0 rfl rfl 4 (by decide) (hts _ qw1131) (fun _ h9 => h9) rfl (by decide +kernel) rfl rfl (Nat.le_of_ble_eq_true rfl) dX11_readCourt_7 (fun H locs hP hD hS => ?_)
  have hP : va_P (dC, dI) vwCl [(h0, .inr (11, [.int 0, .ref h1, .int 0, .int 0, .int (-1), .int 0, .ref h2, .ref h3, .ref h4, .ref h5, .ref h6, .ref h7, .ref h8, .int 0, .int 0, .ref h9, .ref h10, .ref h11, .ref h12, .ref h13, .int 0, .int 0, .ref h14, .ref h15, .ref h16, .int 0, .int 0, .ref h17, .ref h18, .int (-1), .int 0, .ref h19, .int 0, .long 0, .ref h20, .int 0, .int 0, .ref h21, .ref h22, .ref h23, .int 0])), (h11, .inl (cI, 3, .inl (fun _ => 0)))] H := hP
  have hD : va_D A [(h0, .inr (11, [.int 0, .ref h1, .int 0, .int 0, .int (-1), .int 0, .ref h2, .ref h3, .ref h4, .ref h5, .ref h6, .ref h7, .ref h8, .int 0, .int 0, .ref h9, .ref h10, .ref h11, .ref h12, .ref h13, .int 0, .int 0, .ref h14, .ref h15, .ref h16, .int 0, .int 0, .ref h17, .ref h18, .int (-1), .int 0, .ref h19, .int 0, .long 0, .ref h20, .int 0, .int 0, .ref h21, .ref h22, .ref h23, .int 0])), (h11, .inl (cI, 3, .inl (fun _ => 0)))] := hD
  refine lv_aload_n hx hb dX11_readCourt_10 rfl (lv_at hl 0 rfl) ?_
  refine lv_iconst (v := 0) hx hb dX11_readCourt_11 (by decide) ?_
  refine va_put (D := (dC, dI)) (ci := 11) (v := .int 0) (ty := .int) (C := RX11) (T := TX11) (N := 41) hx hb hts iX11 tyX11 tyX11_ok nmX11 hown hK hP hD hS 0 rfl rfl 20 (by decide) (hts _ qw1147) (fun _ h9 => h9) rfl (by decide +kernel) rfl rfl (Nat.le_of_ble_eq_true rfl) dX11_readCourt_12 (fun H locs hP hD hS => ?_)
  have hP : va_P (dC, dI) vwCl [(h0, .inr (11, [.int 0, .ref h1, .int 0, .int 0, .int (-1), .int 0, .ref h2, .ref h3, .ref h4, .ref h5, .ref h6, .ref h7, .ref h8, .int 0, .int 0, .ref h9, .ref h10, .ref h11, .ref h12, .ref h13, .int 0, .int 0, .ref h14, .ref h15, .ref h16, .int 0, .int 0, .ref h17, .ref h18, .int (-1), .int 0, .ref h19, .int 0, .long 0, .ref h20, .int 0, .int 0, .ref h21, .ref h22, .ref h23, .int 0])), (h11, .inl (cI, 3, .inl (fun _ => 0)))] H := hP
  have hD : va_D A [(h0, .inr (11, [.int 0, .ref h1, .int 0, .int 0, .int (-1), .int 0, .ref h2, .ref h3, .ref h4, .ref h5, .ref h6, .ref h7, .ref h8, .int 0, .int 0, .ref h9, .ref h10, .ref h11, .ref h12, .ref h13, .int 0, .int 0, .ref h14, .ref h15, .ref h16, .int 0, .int 0, .ref h17, .ref h18, .int (-1), .int 0, .ref h19, .int 0, .long 0, .ref h20, .int 0, .int 0, .ref h21, .ref h22, .ref h23, .int 0])), (h11, .inl (cI, 3, .inl (fun _ => 0)))] := hD
  refine lv_aload_n hx hb dX11_readCourt_15 rfl (lv_at hl 0 rfl) ?_
  refine lv_iconst (v := 0) hx hb dX11_readCourt_16 (by decide) ?_
  refine va_put (D := (dC, dI)) (ci := 11) (v := .int 0) (ty := .int) (C := RX11) (T := TX11) (N := 41) hx hb hts iX11 tyX11 tyX11_ok nmX11 hown hK hP hD hS 0 rfl rfl 21 (by decide) (hts _ qw1148) (fun _ h9 => h9) rfl (by decide +kernel) rfl rfl (Nat.le_of_ble_eq_true rfl) dX11_readCourt_17 (fun H locs hP hD hS => ?_)
  have hP : va_P (dC, dI) vwCl [(h0, .inr (11, [.int 0, .ref h1, .int 0, .int 0, .int (-1), .int 0, .ref h2, .ref h3, .ref h4, .ref h5, .ref h6, .ref h7, .ref h8, .int 0, .int 0, .ref h9, .ref h10, .ref h11, .ref h12, .ref h13, .int 0, .int 0, .ref h14, .ref h15, .ref h16, .int 0, .int 0, .ref h17, .ref h18, .int (-1), .int 0, .ref h19, .int 0, .long 0, .ref h20, .int 0, .int 0, .ref h21, .ref h22, .ref h23, .int 0])), (h11, .inl (cI, 3, .inl (fun _ => 0)))] H := hP
  have hD : va_D A [(h0, .inr (11, [.int 0, .ref h1, .int 0, .int 0, .int (-1), .int 0, .ref h2, .ref h3, .ref h4, .ref h5, .ref h6, .ref h7, .ref h8, .int 0, .int 0, .ref h9, .ref h10, .ref h11, .ref h12, .ref h13, .int 0, .int 0, .ref h14, .ref h15, .ref h16, .int 0, .int 0, .ref h17, .ref h18, .int (-1), .int 0, .ref h19, .int 0, .long 0, .ref h20, .int 0, .int 0, .ref h21, .ref h22, .ref h23, .int 0])), (h11, .inl (cI, 3, .inl (fun _ => 0)))] := hD
  refine lv_iconst (v := 0) hx hb dX11_readCourt_20 (by decide) ?_
  refine lv_istore_n (lv' := [(1, .int 0), (0, .ref h0)]) hx hb dX11_readCourt_21 rfl hl (by decide) rfl (fun ls hl => ?_)
  refine lv_iconst (v := 0) hx hb dX11_readCourt_22 (by decide) ?_
  refine lv_istore_n (lv' := [(2, .int 0), (1, .int 0), (0, .ref h0)]) hx hb dX11_readCourt_23 rfl hl (by decide) rfl (fun ls hl => ?_)
  refine lv_iload_n hx hb dX11_readCourt_24 rfl (lv_at hl 0 rfl) ?_
  refine lv_iconst (v := 3) hx hb dX11_readCourt_25 (by decide) ?_
  refine lv_icmp_ge (tgt := 47) hx hb dX11_readCourt_26 (by decide) (fun c => absurd c (by decide)) (fun _ => ?_)
  refine lv_aload_n hx hb dX11_readCourt_29 rfl (lv_at hl 2 rfl) ?_
  refine va_get (D := (dC, dI)) (ci := 11) (v := .ref h11) (C := RX11) (T := TX11) (N := 41) hx hb hts iX11 hown hK hP 0 rfl rfl 17 (by decide) (hts _ qw1144) (fun _ h9 => h9) rfl dX11_readCourt_30 ?_
  refine lv_iload_n hx hb dX11_readCourt_33 rfl (lv_at hl 0 rfl) ?_
  refine lv_bipush (v := 115) hx hb dX11_readCourt_34 (by decide) ?_
  refine lv_iload_n hx hb dX11_readCourt_36 rfl (lv_at hl 0 rfl) ?_
  have hPc : va_P (dC, dI) vwCl [] H := zP0
  have hDc : va_D (fun _ => True) [] := zD0
  have hFc := zfr hS hA
  refine va_calli (va_runS (As := [.int 115, .int 0]) (rest := [.int 0, .ref h11]) ⟨hx, hb, hml, hown, hts⟩ (c_X11_usual l dC dI cI cJ H.size) (cwS 2 hts (zgS qw1274 qw1275 qw108 qw1276) rfl rfl rfl hd_X11_usual ⟨Nat.le_of_ble_eq_true rfl, Nat.le_of_ble_eq_true rfl⟩) (zPS hPc hK hDc) rfl rfl hl.1 rfl (lv_room (Nat.le_of_ble_eq_true rfl)) dX11_readCourt_37 ⟨Nat.le_of_ble_eq_true rfl, Nat.le_of_ble_eq_true rfl⟩) hS (fun q _ h => hFc q h) hFc (fun r_1 u t H locs ht hvm hw hB hz1 hk1 hS => ?_)
  have hP := zkeep hP hk1
  have hw : r_1 = 40 := hw
  subst hw
  refine va_iast hx hb hK hP hD hS 1 0 rfl rfl (by unfold vp_in; decide) dX11_readCourt_40 (fun H locs hP hD hS => ?_)
  have hP : va_P (dC, dI) vwCl [(h0, .inr (11, [.int 0, .ref h1, .int 0, .int 0, .int (-1), .int 0, .ref h2, .ref h3, .ref h4, .ref h5, .ref h6, .ref h7, .ref h8, .int 0, .int 0, .ref h9, .ref h10, .ref h11, .ref h12, .ref h13, .int 0, .int 0, .ref h14, .ref h15, .ref h16, .int 0, .int 0, .ref h17, .ref h18, .int (-1), .int 0, .ref h19, .int 0, .long 0, .ref h20, .int 0, .int 0, .ref h21, .ref h22, .ref h23, .int 0])), (h11, .inl (cI, 3, .inl (upd (fun _ => 0) 0 40)))] H := hP
  have hD : va_D A [(h0, .inr (11, [.int 0, .ref h1, .int 0, .int 0, .int (-1), .int 0, .ref h2, .ref h3, .ref h4, .ref h5, .ref h6, .ref h7, .ref h8, .int 0, .int 0, .ref h9, .ref h10, .ref h11, .ref h12, .ref h13, .int 0, .int 0, .ref h14, .ref h15, .ref h16, .int 0, .int 0, .ref h17, .ref h18, .int (-1), .int 0, .ref h19, .int 0, .long 0, .ref h20, .int 0, .int 0, .ref h21, .ref h22, .ref h23, .int 0])), (h11, .inl (cI, 3, .inl (upd (fun _ => 0) 0 40)))] := hD
  refine lv_iinc (v := 1) (lv' := [(2, .int 1), (1, .int 0), (0, .ref h0)]) hx hb dX11_readCourt_41 hl (k := 0) rfl (by decide) (by decide) rfl (fun ls hl => ?_)
  refine lv_goto (tgt := 24) hx hb dX11_readCourt_44 (by decide) ?_
  refine lv_iload_n hx hb dX11_readCourt_24 rfl (lv_at hl 0 rfl) ?_
  refine lv_iconst (v := 3) hx hb dX11_readCourt_25 (by decide) ?_
  refine lv_icmp_ge (tgt := 47) hx hb dX11_readCourt_26 (by decide) (fun c => absurd c (by decide)) (fun _ => ?_)
  refine lv_aload_n hx hb dX11_readCourt_29 rfl (lv_at hl 2 rfl) ?_
  refine va_get (D := (dC, dI)) (ci := 11) (v := .ref h11) (C := RX11) (T := TX11) (N := 41) hx hb hts iX11 hown hK hP 0 rfl rfl 17 (by decide) (hts _ qw1144) (fun _ h9 => h9) rfl dX11_readCourt_30 ?_
  refine lv_iload_n hx hb dX11_readCourt_33 rfl (lv_at hl 0 rfl) ?_
  refine lv_bipush (v := 115) hx hb dX11_readCourt_34 (by decide) ?_
  refine lv_iload_n hx hb dX11_readCourt_36 rfl (lv_at hl 0 rfl) ?_
  have hPc : va_P (dC, dI) vwCl [] H := zP0
  have hDc : va_D (fun _ => True) [] := zD0
  have hFc := zfr hS hA
  refine va_calli (va_runS (As := [.int 115, .int 1]) (rest := [.int 1, .ref h11]) ⟨hx, hb, hml, hown, hts⟩ (c_X11_usual_1 l dC dI cI cJ H.size) (cwS 2 hts (zgS qw1274 qw1275 qw108 qw1276) rfl rfl rfl hd_X11_usual ⟨Nat.le_of_ble_eq_true rfl, Nat.le_of_ble_eq_true rfl⟩) (zPS hPc hK hDc) rfl rfl hl.1 rfl (lv_room (Nat.le_of_ble_eq_true rfl)) dX11_readCourt_37 ⟨Nat.le_of_ble_eq_true rfl, Nat.le_of_ble_eq_true rfl⟩) hS (fun q _ h => hFc q h) hFc (fun r_2 u t H locs ht hvm hw hB hz1 hk1 hS => ?_)
  have hP := zkeep hP hk1
  have hw : r_2 = 5 := hw
  subst hw
  refine va_iast hx hb hK hP hD hS 1 0 rfl rfl (by unfold vp_in; decide) dX11_readCourt_40 (fun H locs hP hD hS => ?_)
  have hP : va_P (dC, dI) vwCl [(h0, .inr (11, [.int 0, .ref h1, .int 0, .int 0, .int (-1), .int 0, .ref h2, .ref h3, .ref h4, .ref h5, .ref h6, .ref h7, .ref h8, .int 0, .int 0, .ref h9, .ref h10, .ref h11, .ref h12, .ref h13, .int 0, .int 0, .ref h14, .ref h15, .ref h16, .int 0, .int 0, .ref h17, .ref h18, .int (-1), .int 0, .ref h19, .int 0, .long 0, .ref h20, .int 0, .int 0, .ref h21, .ref h22, .ref h23, .int 0])), (h11, .inl (cI, 3, .inl (upd (upd (fun _ => 0) 0 40) 1 5)))] H := hP
  have hD : va_D A [(h0, .inr (11, [.int 0, .ref h1, .int 0, .int 0, .int (-1), .int 0, .ref h2, .ref h3, .ref h4, .ref h5, .ref h6, .ref h7, .ref h8, .int 0, .int 0, .ref h9, .ref h10, .ref h11, .ref h12, .ref h13, .int 0, .int 0, .ref h14, .ref h15, .ref h16, .int 0, .int 0, .ref h17, .ref h18, .int (-1), .int 0, .ref h19, .int 0, .long 0, .ref h20, .int 0, .int 0, .ref h21, .ref h22, .ref h23, .int 0])), (h11, .inl (cI, 3, .inl (upd (upd (fun _ => 0) 0 40) 1 5)))] := hD
  refine lv_iinc (v := 2) (lv' := [(2, .int 2), (1, .int 0), (0, .ref h0)]) hx hb dX11_readCourt_41 hl (k := 0) rfl (by decide) (by decide) rfl (fun ls hl => ?_)
  refine lv_goto (tgt := 24) hx hb dX11_readCourt_44 (by decide) ?_
  refine lv_iload_n hx hb dX11_readCourt_24 rfl (lv_at hl 0 rfl) ?_
  refine lv_iconst (v := 3) hx hb dX11_readCourt_25 (by decide) ?_
  refine lv_icmp_ge (tgt := 47) hx hb dX11_readCourt_26 (by decide) (fun c => absurd c (by decide)) (fun _ => ?_)
  refine lv_aload_n hx hb dX11_readCourt_29 rfl (lv_at hl 2 rfl) ?_
  refine va_get (D := (dC, dI)) (ci := 11) (v := .ref h11) (C := RX11) (T := TX11) (N := 41) hx hb hts iX11 hown hK hP 0 rfl rfl 17 (by decide) (hts _ qw1144) (fun _ h9 => h9) rfl dX11_readCourt_30 ?_
  refine lv_iload_n hx hb dX11_readCourt_33 rfl (lv_at hl 0 rfl) ?_
  refine lv_bipush (v := 115) hx hb dX11_readCourt_34 (by decide) ?_
  refine lv_iload_n hx hb dX11_readCourt_36 rfl (lv_at hl 0 rfl) ?_
  have hPc : va_P (dC, dI) vwCl [] H := zP0
  have hDc : va_D (fun _ => True) [] := zD0
  have hFc := zfr hS hA
  refine va_calli (va_runS (As := [.int 115, .int 2]) (rest := [.int 2, .ref h11]) ⟨hx, hb, hml, hown, hts⟩ (c_X11_usual_2 l dC dI cI cJ H.size) (cwS 2 hts (zgS qw1274 qw1275 qw108 qw1276) rfl rfl rfl hd_X11_usual ⟨Nat.le_of_ble_eq_true rfl, Nat.le_of_ble_eq_true rfl⟩) (zPS hPc hK hDc) rfl rfl hl.1 rfl (lv_room (Nat.le_of_ble_eq_true rfl)) dX11_readCourt_37 ⟨Nat.le_of_ble_eq_true rfl, Nat.le_of_ble_eq_true rfl⟩) hS (fun q _ h => hFc q h) hFc (fun r_3 u t H locs ht hvm hw hB hz1 hk1 hS => ?_)
  have hP := zkeep hP hk1
  have hw : r_3 = 3 := hw
  subst hw
  refine va_iast hx hb hK hP hD hS 1 0 rfl rfl (by unfold vp_in; decide) dX11_readCourt_40 (fun H locs hP hD hS => ?_)
  have hP : va_P (dC, dI) vwCl [(h0, .inr (11, [.int 0, .ref h1, .int 0, .int 0, .int (-1), .int 0, .ref h2, .ref h3, .ref h4, .ref h5, .ref h6, .ref h7, .ref h8, .int 0, .int 0, .ref h9, .ref h10, .ref h11, .ref h12, .ref h13, .int 0, .int 0, .ref h14, .ref h15, .ref h16, .int 0, .int 0, .ref h17, .ref h18, .int (-1), .int 0, .ref h19, .int 0, .long 0, .ref h20, .int 0, .int 0, .ref h21, .ref h22, .ref h23, .int 0])), (h11, .inl (cI, 3, .inl (upd (upd (upd (fun _ => 0) 0 40) 1 5) 2 3)))] H := hP
  have hD : va_D A [(h0, .inr (11, [.int 0, .ref h1, .int 0, .int 0, .int (-1), .int 0, .ref h2, .ref h3, .ref h4, .ref h5, .ref h6, .ref h7, .ref h8, .int 0, .int 0, .ref h9, .ref h10, .ref h11, .ref h12, .ref h13, .int 0, .int 0, .ref h14, .ref h15, .ref h16, .int 0, .int 0, .ref h17, .ref h18, .int (-1), .int 0, .ref h19, .int 0, .long 0, .ref h20, .int 0, .int 0, .ref h21, .ref h22, .ref h23, .int 0])), (h11, .inl (cI, 3, .inl (upd (upd (upd (fun _ => 0) 0 40) 1 5) 2 3)))] := hD
  refine lv_iinc (v := 3) (lv' := [(2, .int 3), (1, .int 0), (0, .ref h0)]) hx hb dX11_readCourt_41 hl (k := 0) rfl (by decide) (by decide) rfl (fun ls hl => ?_)
  refine lv_goto (tgt := 24) hx hb dX11_readCourt_44 (by decide) ?_
  refine lv_iload_n hx hb dX11_readCourt_24 rfl (lv_at hl 0 rfl) ?_
  refine lv_iconst (v := 3) hx hb dX11_readCourt_25 (by decide) ?_
  refine lv_icmp_ge (tgt := 47) hx hb dX11_readCourt_26 (by decide) (fun _ => ?_) (fun c => absurd (by decide) c)
  refine lv_iconst (v := 1) hx hb dX11_readCourt_47 (by decide) ?_
  refine lv_istore_n (lv' := [(2, .int 1), (1, .int 0), (0, .ref h0)]) hx hb dX11_readCourt_48 rfl hl (by decide) rfl (fun ls hl => ?_)
  refine lv_iload_n hx hb dX11_readCourt_49 rfl (lv_at hl 0 rfl) ?_
  refine lv_if_eq (tgt := 257) hx hb dX11_readCourt_50 (by decide) (fun c => absurd c (by decide)) (fun _ => ?_)
  refine lv_aload_n hx hb dX11_readCourt_53 rfl (lv_at hl 2 rfl) ?_
  refine va_get (D := (dC, dI)) (ci := 11) (v := .int (-1)) (C := RX11) (T := TX11) (N := 41) hx hb hts iX11 hown hK hP 0 rfl rfl 4 (by decide) (hts _ qw1131) (fun _ h9 => h9) rfl dX11_readCourt_54 ?_
  refine lv_iconst (v := (-1)) hx hb dX11_readCourt_57 (by decide) ?_
  refine lv_icmp_ne (tgt := 257) hx hb dX11_readCourt_58 (by decide) (fun c => absurd (by decide) c) (fun _ => ?_)
  refine lv_aload_n hx hb dX11_readCourt_61 rfl (lv_at hl 2 rfl) ?_
  have hPc := hP.sub (ws' := [(h0, .inr (11, [.int 0, .ref h1, .int 0, .int 0, .int (-1), .int 0, .ref h2, .ref h3, .ref h4, .ref h5, .ref h6, .ref h7, .ref h8, .int 0, .int 0, .ref h9, .ref h10, .ref h11, .ref h12, .ref h13, .int 0, .int 0, .ref h14, .ref h15, .ref h16, .int 0, .int 0, .ref h17, .ref h18, .int (-1), .int 0, .ref h19, .int 0, .long 0, .ref h20, .int 0, .int 0, .ref h21, .ref h22, .ref h23, .int 0]))]) [0] rfl
  have hDc := hD.sub (ws' := [(h0, .inr (11, [.int 0, .ref h1, .int 0, .int 0, .int (-1), .int 0, .ref h2, .ref h3, .ref h4, .ref h5, .ref h6, .ref h7, .ref h8, .int 0, .int 0, .ref h9, .ref h10, .ref h11, .ref h12, .ref h13, .int 0, .int 0, .ref h14, .ref h15, .ref h16, .int 0, .int 0, .ref h17, .ref h18, .int (-1), .int 0, .ref h19, .int 0, .long 0, .ref h20, .int 0, .int 0, .ref h21, .ref h22, .ref h23, .int 0]))]) [0] (by decide) rfl
  have hFc := zfr hS hA
  refine va_calli (va_runV (As := []) (rest := []) ⟨hx, hb, hml, hown, hts⟩ (c_X11_look_1 l dC dI cI cJ h0 h1 h2 h3 h4 h5 h6 h7 h8 h9 h10 h11 h12 h13 h14 h15 h16 h17 h18 h19 h20 h21 h22 h23 H.size) (cwV 0 hts (zgV qw1277 qw1279 qw32 qw108 qw1280) rfl rfl rfl hd_X11_look ⟨Nat.le_of_ble_eq_true rfl, Nat.le_of_ble_eq_true rfl⟩) (zPV hPc hK hDc (va_recv hK hP (ci := 11) (q0 := 0) rfl rfl)) rfl rfl hl.1 rfl (lv_room (Nat.le_of_ble_eq_true rfl)) dX11_readCourt_62 ⟨Nat.le_of_ble_eq_true rfl, Nat.le_of_ble_eq_true rfl⟩) hS (fun q _ h => hFc q h) hFc (fun r_4 u t H locs ht hvm hw hB hz1 hk1 hS => ?_)
  have hP := zkeep hP hk1
  have hw : r_4 = (-1) := hw
  subst hw
  refine lv_istore_n (lv' := [(3, .int (-1)), (2, .int 1), (1, .int 0), (0, .ref h0)]) hx hb dX11_readCourt_65 rfl hl (by decide) rfl (fun ls hl => ?_)
  refine lv_iload_n hx hb dX11_readCourt_66 rfl (lv_at hl 0 rfl) ?_
  refine lv_bipush (v := 115) hx hb dX11_readCourt_67 (by decide) ?_
  refine lv_icmp_ne (tgt := 102) hx hb dX11_readCourt_69 (by decide) (fun _ => ?_) (fun c => absurd c (by decide))
  refine lv_iload_n hx hb dX11_readCourt_102 rfl (lv_at hl 0 rfl) ?_
  refine lv_bipush (v := 98) hx hb dX11_readCourt_103 (by decide) ?_
  refine lv_icmp_ne (tgt := 156) hx hb dX11_readCourt_105 (by decide) (fun _ => ?_) (fun c => absurd c (by decide))
  refine lv_iload_n hx hb dX11_readCourt_156 rfl (lv_at hl 0 rfl) ?_
  refine lv_bipush (v := 112) hx hb dX11_readCourt_157 (by decide) ?_
  refine lv_icmp_ne (tgt := 209) hx hb dX11_readCourt_159 (by decide) (fun _ => ?_) (fun c => absurd c (by decide))
  refine lv_aload_n hx hb dX11_readCourt_209 rfl (lv_at hl 3 rfl) ?_
  have hPc := hP.sub (ws' := [(h0, .inr (11, [.int 0, .ref h1, .int 0, .int 0, .int (-1), .int 0, .ref h2, .ref h3, .ref h4, .ref h5, .ref h6, .ref h7, .ref h8, .int 0, .int 0, .ref h9, .ref h10, .ref h11, .ref h12, .ref h13, .int 0, .int 0, .ref h14, .ref h15, .ref h16, .int 0, .int 0, .ref h17, .ref h18, .int (-1), .int 0, .ref h19, .int 0, .long 0, .ref h20, .int 0, .int 0, .ref h21, .ref h22, .ref h23, .int 0]))]) [0] rfl
  have hDc := hD.sub (ws' := [(h0, .inr (11, [.int 0, .ref h1, .int 0, .int 0, .int (-1), .int 0, .ref h2, .ref h3, .ref h4, .ref h5, .ref h6, .ref h7, .ref h8, .int 0, .int 0, .ref h9, .ref h10, .ref h11, .ref h12, .ref h13, .int 0, .int 0, .ref h14, .ref h15, .ref h16, .int 0, .int 0, .ref h17, .ref h18, .int (-1), .int 0, .ref h19, .int 0, .long 0, .ref h20, .int 0, .int 0, .ref h21, .ref h22, .ref h23, .int 0]))]) [0] (by decide) rfl
  have hFc := va_free (wc := [(h0, .inr (11, [.int 0, .ref h1, .int 0, .int 0, .int (-1), .int 0, .ref h2, .ref h3, .ref h4, .ref h5, .ref h6, .ref h7, .ref h8, .int 0, .int 0, .ref h9, .ref h10, .ref h11, .ref h12, .ref h13, .int 0, .int 0, .ref h14, .ref h15, .ref h16, .int 0, .int 0, .ref h17, .ref h18, .int (-1), .int 0, .ref h19, .int 0, .long 0, .ref h20, .int 0, .int 0, .ref h21, .ref h22, .ref h23, .int 0]))]) hD hS hA [0] rfl
  refine va_callv (va_runV (As := []) (rest := []) ⟨hx, hb, hml, hown, hts⟩ (c_X11_bad_1 l dC dI cI cJ h0 h1 h2 h3 h4 h5 h6 h7 h8 h9 h10 h11 h12 h13 h14 h15 h16 h17 h18 h19 h20 h21 h22 h23 H.size) (cwV 0 hts (zgV qw1305 qw1307 qw36 qw108 qw1308) rfl rfl rfl hd_X11_bad ⟨Nat.le_of_ble_eq_true rfl, Nat.le_of_ble_eq_true rfl⟩) (zPV hPc hK hDc (va_recv hK hP (ci := 11) (q0 := 0) rfl rfl)) rfl rfl hl.1 rfl (lv_room (Nat.le_of_ble_eq_true rfl)) dX11_readCourt_210 ⟨Nat.le_of_ble_eq_true rfl, Nat.le_of_ble_eq_true rfl⟩) hS (fun q _ h => hFc q h) hFc (fun u t H locs ht hvm hw hB hz1 hk1 hS => ?_)
  obtain ⟨hP1, hD1⟩ := hB
  rw [ht] at hP1
  obtain ⟨hP, hD⟩ := va_join (wr := [(h11, .inl (cI, 3, .inl (upd (upd (upd (fun _ => 0) 0 40) 1 5) 2 3)))]) (w1 := [(h0, .inr (11, [.int 0, .ref h1, .int 0, .int 0, .int 0, .int 0, .ref h2, .ref h3, .ref h4, .ref h5, .ref h6, .ref h7, .ref h8, .int 0, .int 0, .ref h9, .ref h10, .ref h11, .ref h12, .ref h13, .int 0, .int 0, .ref h14, .ref h15, .ref h16, .int 0, .int 0, .ref h17, .ref h18, .int (-1), .int 0, .ref h19, .int 0, .long 0, .ref h20, .int 0, .int 0, .ref h21, .ref h22, .ref h23, .int 0]))]) hP hD [0] [1] rfl rfl (by decide) (by decide) hk1 hFc hP1 hD1
  have hP : va_P (dC, dI) vwCl [(h11, .inl (cI, 3, .inl (upd (upd (upd (fun _ => 0) 0 40) 1 5) 2 3))), (h0, .inr (11, [.int 0, .ref h1, .int 0, .int 0, .int 0, .int 0, .ref h2, .ref h3, .ref h4, .ref h5, .ref h6, .ref h7, .ref h8, .int 0, .int 0, .ref h9, .ref h10, .ref h11, .ref h12, .ref h13, .int 0, .int 0, .ref h14, .ref h15, .ref h16, .int 0, .int 0, .ref h17, .ref h18, .int (-1), .int 0, .ref h19, .int 0, .long 0, .ref h20, .int 0, .int 0, .ref h21, .ref h22, .ref h23, .int 0]))] H := hP
  have hD : va_D A [(h11, .inl (cI, 3, .inl (upd (upd (upd (fun _ => 0) 0 40) 1 5) 2 3))), (h0, .inr (11, [.int 0, .ref h1, .int 0, .int 0, .int 0, .int 0, .ref h2, .ref h3, .ref h4, .ref h5, .ref h6, .ref h7, .ref h8, .int 0, .int 0, .ref h9, .ref h10, .ref h11, .ref h12, .ref h13, .int 0, .int 0, .ref h14, .ref h15, .ref h16, .int 0, .int 0, .ref h17, .ref h18, .int (-1), .int 0, .ref h19, .int 0, .long 0, .ref h20, .int 0, .int 0, .ref h21, .ref h22, .ref h23, .int 0]))] := hD
  refine lv_aload_n hx hb dX11_readCourt_213 rfl (lv_at hl 3 rfl) ?_
  refine va_get (D := (dC, dI)) (ci := 11) (v := .int 0) (C := RX11) (T := TX11) (N := 41) hx hb hts iX11 hown hK hP 1 rfl rfl 4 (by decide) (hts _ qw1131) (fun _ h9 => h9) rfl dX11_readCourt_214 ?_
  refine lv_iconst (v := (-1)) hx hb dX11_readCourt_217 (by decide) ?_
  refine lv_icmp_ne (tgt := 234) hx hb dX11_readCourt_218 (by decide) (fun _ => ?_) (fun c => absurd c (by decide))
  refine lv_iconst (v := 0) hx hb dX11_readCourt_234 (by decide) ?_
  refine lv_istore_n (lv' := [(2, .int 0), (3, .int (-1)), (1, .int 0), (0, .ref h0)]) hx hb dX11_readCourt_235 rfl hl (by decide) rfl (fun ls hl => ?_)
  refine lv_aload_n hx hb dX11_readCourt_236 rfl (lv_at hl 3 rfl) ?_
  refine lv_dup hx hb dX11_readCourt_237 rfl ?_
  refine va_get (D := (dC, dI)) (ci := 11) (v := .int 0) (C := RX11) (T := TX11) (N := 41) hx hb hts iX11 hown hK hP 1 rfl rfl 3 (by decide) (hts _ qw1130) (fun _ h9 => h9) rfl dX11_readCourt_238 ?_
  refine lv_iload_n hx hb dX11_readCourt_241 rfl (lv_at hl 0 rfl) ?_
  refine lv_if_eq (tgt := 249) hx hb dX11_readCourt_242 (by decide) (fun _ => ?_) (fun c => absurd (by decide) c)
  refine lv_iconst (v := 0) hx hb dX11_readCourt_249 (by decide) ?_
  refine lv_iadd hx hb dX11_readCourt_250 ?_
  refine lv_topi (fun v_6 ev_6 => ?_)
  obtain rfl : v_6 = 0 := ev_6.trans (by decide)
  refine va_put (D := (dC, dI)) (ci := 11) (v := .int 0) (ty := .int) (C := RX11) (T := TX11) (N := 41) hx hb hts iX11 tyX11 tyX11_ok nmX11 hown hK hP hD hS 1 rfl rfl 3 (by decide) (hts _ qw1130) (fun _ h9 => h9) rfl (by decide +kernel) rfl rfl (Nat.le_of_ble_eq_true rfl) dX11_readCourt_251 (fun H locs hP hD hS => ?_)
  have hP : va_P (dC, dI) vwCl [(h11, .inl (cI, 3, .inl (upd (upd (upd (fun _ => 0) 0 40) 1 5) 2 3))), (h0, .inr (11, [.int 0, .ref h1, .int 0, .int 0, .int 0, .int 0, .ref h2, .ref h3, .ref h4, .ref h5, .ref h6, .ref h7, .ref h8, .int 0, .int 0, .ref h9, .ref h10, .ref h11, .ref h12, .ref h13, .int 0, .int 0, .ref h14, .ref h15, .ref h16, .int 0, .int 0, .ref h17, .ref h18, .int (-1), .int 0, .ref h19, .int 0, .long 0, .ref h20, .int 0, .int 0, .ref h21, .ref h22, .ref h23, .int 0]))] H := hP
  have hD : va_D A [(h11, .inl (cI, 3, .inl (upd (upd (upd (fun _ => 0) 0 40) 1 5) 2 3))), (h0, .inr (11, [.int 0, .ref h1, .int 0, .int 0, .int 0, .int 0, .ref h2, .ref h3, .ref h4, .ref h5, .ref h6, .ref h7, .ref h8, .int 0, .int 0, .ref h9, .ref h10, .ref h11, .ref h12, .ref h13, .int 0, .int 0, .ref h14, .ref h15, .ref h16, .int 0, .int 0, .ref h17, .ref h18, .int (-1), .int 0, .ref h19, .int 0, .long 0, .ref h20, .int 0, .int 0, .ref h21, .ref h22, .ref h23, .int 0]))] := hD
  refine lv_goto (tgt := 49) hx hb dX11_readCourt_254 (by decide) ?_
  refine lv_iload_n hx hb dX11_readCourt_49 rfl (lv_at hl 0 rfl) ?_
  refine lv_if_eq (tgt := 257) hx hb dX11_readCourt_50 (by decide) (fun _ => ?_) (fun c => absurd (by decide) c)
  refine lv_aload_n hx hb dX11_readCourt_257 rfl (lv_at hl 3 rfl) ?_
  refine va_get (D := (dC, dI)) (ci := 11) (v := .int 0) (C := RX11) (T := TX11) (N := 41) hx hb hts iX11 hown hK hP 1 rfl rfl 4 (by decide) (hts _ qw1131) (fun _ h9 => h9) rfl dX11_readCourt_258 ?_
  refine lv_iconst (v := (-1)) hx hb dX11_readCourt_261 (by decide) ?_
  refine lv_icmp_ne (tgt := 291) hx hb dX11_readCourt_262 (by decide) (fun _ => ?_) (fun c => absurd c (by decide))
  refine lv_aload_n hx hb dX11_readCourt_291 rfl (lv_at hl 3 rfl) ?_
  refine va_get (D := (dC, dI)) (ci := 11) (v := .int 0) (C := RX11) (T := TX11) (N := 41) hx hb hts iX11 hown hK hP 1 rfl rfl 4 (by decide) (hts _ qw1131) (fun _ h9 => h9) rfl dX11_readCourt_292 ?_
  exact W.iret (v := 0) hx hb hr (fun t ht hW => ⟨⟨0, (), rfl, rfl, ⟨by rw [ht]; exact hP, hD⟩⟩, hS.F ht⟩) hS.2.2 dX11_readCourt_295
set_option maxHeartbeats 4000000 in
set_option maxRecDepth 100000 in
theorem c_X11_fault (l : Launch) (dC : Nat → ClassId) (dI : Nat → Nat → Nat) (cI cJ : ClassId) (h0 h1 h2 h3 h4 h5 h6 h7 h8 h9 h10 h11 h12 h13 h14 h15 h16 h17 h18 h19 h20 h21 h22 h23 : Nat) (sz : Nat) (p0 : Int32) : Met l yX11_fault (.code yX11_fault cX11_fault 2 (some .int) :: wA) ({ frames := 4, cells := 0, slots := 0, locals := 83 }) (zP (dC, dI) [(cI, .int), (cJ, .long)] [.ref h0, .int p0] sz [(h0, .inr (11, [.int 0, .ref h1, .int 0, .int 0, .int 0, .int 0, .ref h2, .ref h3, .ref h4, .ref h5, .ref h6, .ref h7, .ref h8, .int 0, .int 0, .ref h9, .ref h10, .ref h11, .ref h12, .ref h13, .int 0, .int 0, .ref h14, .ref h15, .ref h16, .int 0, .int 0, .ref h17, .ref h18, .int (-1), .int 0, .ref h19, .int 0, .long 0, .ref h20, .int 0, .int 0, .ref h21, .ref h22, .ref h23, .int 0])), (h4, .inl (cI, 5, .inl (fun _ => 0))), (h5, .inl (cI, 5, .inl (fun _ => 0))), (h11, .inl (cI, 3, .inl (fun _ => 0)))]) (va_Qi (fun (r : Int32) (_ : Unit) => (¬ p0 = 0 ∧ ¬ p0 = 1 ∧ r = (-2)) ∨ (¬ p0 = 0 ∧ p0 = 1 ∧ r = 0) ∨ (p0 = 0 ∧ r = 0)) (fun (_ : Unit) (_ : State) => True) (va_A [(h0, .inr (11, [.int 0, .ref h1, .int 0, .int 0, .int 0, .int 0, .ref h2, .ref h3, .ref h4, .ref h5, .ref h6, .ref h7, .ref h8, .int 0, .int 0, .ref h9, .ref h10, .ref h11, .ref h12, .ref h13, .int 0, .int 0, .ref h14, .ref h15, .ref h16, .int 0, .int 0, .ref h17, .ref h18, .int (-1), .int 0, .ref h19, .int 0, .long 0, .ref h20, .int 0, .int 0, .ref h21, .ref h22, .ref h23, .int 0])), (h4, .inl (cI, 5, .inl (fun _ => 0))), (h5, .inl (cI, 5, .inl (fun _ => 0))), (h11, .inl (cI, 3, .inl (fun _ => 0)))] sz)) 0 0 (va_A [(h0, .inr (11, [.int 0, .ref h1, .int 0, .int 0, .int 0, .int 0, .ref h2, .ref h3, .ref h4, .ref h5, .ref h6, .ref h7, .ref h8, .int 0, .int 0, .ref h9, .ref h10, .ref h11, .ref h12, .ref h13, .int 0, .int 0, .ref h14, .ref h15, .ref h16, .int 0, .int 0, .ref h17, .ref h18, .int (-1), .int 0, .ref h19, .int 0, .long 0, .ref h20, .int 0, .int 0, .ref h21, .ref h22, .ref h23, .int 0])), (h4, .inl (cI, 5, .inl (fun _ => 0))), (h5, .inl (cI, 5, .inl (fun _ => 0))), (h11, .inl (cI, 3, .inl (fun _ => 0)))] sz) := by
  refine Met.ofW (cc := cX11_fault) (maxL := 2) (ret := (some .int)) (by decide) rfl ?_
  intro p e s m args below meth c s₁ B hml hv
  obtain ⟨rfl, hsz, hP, hK, hT⟩ := hv
  have hx := B.exec
  have hb := B.bytes
  have hr := B.returns
  have hts : ∀ w ∈ wA, w.before _ s = true := fun w h => atoms_spec (ws := .code yX11_fault cX11_fault 2 (some .int) :: wA) B.pre w (List.mem_cons_of_mem _ h)
  have hown : s.vm.findClass RX11 = some m.cls := findClass_of_methodNamed B.named
  have hlocks := B.notSynchronized
  subst hsz
  have hD := hT.self (sz := s.heap.size)
  generalize hAe : va_A [(h0, .inr (11, [.int 0, .ref h1, .int 0, .int 0, .int 0, .int 0, .ref h2, .ref h3, .ref h4, .ref h5, .ref h6, .ref h7, .ref h8, .int 0, .int 0, .ref h9, .ref h10, .ref h11, .ref h12, .ref h13, .int 0, .int 0, .ref h14, .ref h15, .ref h16, .int 0, .int 0, .ref h17, .ref h18, .int (-1), .int 0, .ref h19, .int 0, .long 0, .ref h20, .int 0, .int 0, .ref h21, .ref h22, .ref h23, .int 0])), (h4, .inl (cI, 5, .inl (fun _ => 0))), (h5, .inl (cI, 5, .inl (fun _ => 0))), (h11, .inl (cI, 3, .inl (fun _ => 0)))] s.heap.size = A at hD ⊢
  have hA : ∀ q : Nat, s.heap.size ≤ q → A q := fun q h => by rw [← hAe]; exact Or.inr h
  have hl := lv_entry ([.ref h0, .int p0]) (n := 2) (Nat.le_of_ble_eq_true rfl)
  rw [lg_entry_eq]
  generalize (lg_sl ([.ref h0, .int p0]) ++ List.replicate (2 - (lg_sl ([.ref h0, .int p0])).length) Slot.unset).toArray = ls at hl ⊢
  have hl : lv_has ls 2 [(0, .ref h0), (1, .int p0)] := hl
  refine zstart (fun H hH => ?_)
  rw [← hH] at hP
  have hS : va_S A s.heap H [] := by rw [hH]; exact va_S.rf
  refine lv_iload_n hx hb dX11_fault_0 rfl (lv_at hl 1 rfl) ?_
  refine lv_if_ne (tgt := 11) hx hb dX11_fault_1 (by decide) (fun c_1 => ?_) (fun c_1 => ?_)
  · have i_1 : ¬ p0.toInt = 0 := z6 rfl (by decide) c_1
    refine lv_iload_n hx hb dX11_fault_11 rfl (lv_at hl 1 rfl) ?_
    refine lv_iconst (v := 1) hx hb dX11_fault_12 (by decide) ?_
    refine lv_icmp_ne (tgt := 24) hx hb dX11_fault_13 (by decide) (fun c_2 => ?_) (fun c_2 => ?_)
    · have i_2 : ¬ p0.toInt = 1 := z6 rfl (by decide) c_2
      refine lv_bipush (v := (-2)) hx hb dX11_fault_24 (by decide) ?_
      exact W.iret (v := ((-2))) hx hb hr (fun t ht hW => ⟨⟨(-2), (), rfl, Or.inl ⟨c_1, c_2, rfl⟩, trivial⟩, hS.F ht⟩) hS.2.2 dX11_fault_26
    · have i_2 : p0.toInt = 1 := z5 rfl (by decide) c_2
      refine lv_aload_n hx hb dX11_fault_16 rfl (lv_at hl 0 rfl) ?_
      refine lv_iconst (v := 4) hx hb dX11_fault_17 (by decide) ?_
      have hPc := hP.sub (ws' := [(h0, .inr (11, [.int 0, .ref h1, .int 0, .int 0, .int 0, .int 0, .ref h2, .ref h3, .ref h4, .ref h5, .ref h6, .ref h7, .ref h8, .int 0, .int 0, .ref h9, .ref h10, .ref h11, .ref h12, .ref h13, .int 0, .int 0, .ref h14, .ref h15, .ref h16, .int 0, .int 0, .ref h17, .ref h18, .int (-1), .int 0, .ref h19, .int 0, .long 0, .ref h20, .int 0, .int 0, .ref h21, .ref h22, .ref h23, .int 0])), (h4, .inl (cI, 5, .inl (fun _ => 0))), (h5, .inl (cI, 5, .inl (fun _ => 0)))]) [0, 1, 2] rfl
      have hDc := hD.sub (ws' := [(h0, .inr (11, [.int 0, .ref h1, .int 0, .int 0, .int 0, .int 0, .ref h2, .ref h3, .ref h4, .ref h5, .ref h6, .ref h7, .ref h8, .int 0, .int 0, .ref h9, .ref h10, .ref h11, .ref h12, .ref h13, .int 0, .int 0, .ref h14, .ref h15, .ref h16, .int 0, .int 0, .ref h17, .ref h18, .int (-1), .int 0, .ref h19, .int 0, .long 0, .ref h20, .int 0, .int 0, .ref h21, .ref h22, .ref h23, .int 0])), (h4, .inl (cI, 5, .inl (fun _ => 0))), (h5, .inl (cI, 5, .inl (fun _ => 0)))]) [0, 1, 2] (by decide) rfl
      have hFc := va_free (wc := [(h0, .inr (11, [.int 0, .ref h1, .int 0, .int 0, .int 0, .int 0, .ref h2, .ref h3, .ref h4, .ref h5, .ref h6, .ref h7, .ref h8, .int 0, .int 0, .ref h9, .ref h10, .ref h11, .ref h12, .ref h13, .int 0, .int 0, .ref h14, .ref h15, .ref h16, .int 0, .int 0, .ref h17, .ref h18, .int (-1), .int 0, .ref h19, .int 0, .long 0, .ref h20, .int 0, .int 0, .ref h21, .ref h22, .ref h23, .int 0])), (h4, .inl (cI, 5, .inl (fun _ => 0))), (h5, .inl (cI, 5, .inl (fun _ => 0)))]) hD hS hA [0, 1, 2] rfl
      refine va_calli (va_runV (As := [.int 4]) (rest := []) ⟨hx, hb, hml, hown, hts⟩ (c_X11_readLaw l dC dI cI cJ h0 h1 h2 h3 h4 h5 h6 h7 h8 h9 h10 h11 h12 h13 h14 h15 h16 h17 h18 h19 h20 h21 h22 h23 H.size) (cwV 1 hts (zgV qw1312 qw1314 qw37 qw108 qw1315) rfl rfl rfl hd_X11_readLaw ⟨Nat.le_of_ble_eq_true rfl, Nat.le_of_ble_eq_true rfl⟩) (zPV hPc hK hDc (va_recv hK hP (ci := 11) (q0 := 0) rfl rfl)) rfl rfl hl.1 rfl (lv_room (Nat.le_of_ble_eq_true rfl)) dX11_fault_18 ⟨Nat.le_of_ble_eq_true rfl, Nat.le_of_ble_eq_true rfl⟩) hS (fun q _ h => hFc q h) hFc (fun r_3 u t H locs ht hvm hw hB hz1 hk1 hS => ?_)
      obtain ⟨hP1, hD1⟩ := hB
      rw [ht] at hP1
      obtain ⟨hP, hD⟩ := va_join (wr := [(h11, .inl (cI, 3, .inl (fun _ => 0)))]) (w1 := [(h4, .inl (cI, 5, .inl (upd (fun _ => 0) 4 0))), (h5, .inl (cI, 5, .inl (upd (fun _ => 0) 4 0))), (h0, .inr (11, [.int 0, .ref h1, .int 0, .int 2, .int 0, .int 0, .ref h2, .ref h3, .ref h4, .ref h5, .ref h6, .ref h7, .ref h8, .int 0, .int 4, .ref h9, .ref h10, .ref h11, .ref h12, .ref h13, .int 0, .int 0, .ref h14, .ref h15, .ref h16, .int 0, .int 0, .ref h17, .ref h18, .int (-1), .int 0, .ref h19, .int 0, .long 0, .ref h20, .int 0, .int 0, .ref h21, .ref h22, .ref h23, .int 0]))]) hP hD [0, 1, 2] [3] rfl rfl (by decide) (by decide) hk1 hFc hP1 hD1
      have hP : va_P (dC, dI) vwCl [(h11, .inl (cI, 3, .inl (fun _ => 0))), (h4, .inl (cI, 5, .inl (upd (fun _ => 0) 4 0))), (h5, .inl (cI, 5, .inl (upd (fun _ => 0) 4 0))), (h0, .inr (11, [.int 0, .ref h1, .int 0, .int 2, .int 0, .int 0, .ref h2, .ref h3, .ref h4, .ref h5, .ref h6, .ref h7, .ref h8, .int 0, .int 4, .ref h9, .ref h10, .ref h11, .ref h12, .ref h13, .int 0, .int 0, .ref h14, .ref h15, .ref h16, .int 0, .int 0, .ref h17, .ref h18, .int (-1), .int 0, .ref h19, .int 0, .long 0, .ref h20, .int 0, .int 0, .ref h21, .ref h22, .ref h23, .int 0]))] H := hP
      have hD : va_D A [(h11, .inl (cI, 3, .inl (fun _ => 0))), (h4, .inl (cI, 5, .inl (upd (fun _ => 0) 4 0))), (h5, .inl (cI, 5, .inl (upd (fun _ => 0) 4 0))), (h0, .inr (11, [.int 0, .ref h1, .int 0, .int 2, .int 0, .int 0, .ref h2, .ref h3, .ref h4, .ref h5, .ref h6, .ref h7, .ref h8, .int 0, .int 4, .ref h9, .ref h10, .ref h11, .ref h12, .ref h13, .int 0, .int 0, .ref h14, .ref h15, .ref h16, .int 0, .int 0, .ref h17, .ref h18, .int (-1), .int 0, .ref h19, .int 0, .long 0, .ref h20, .int 0, .int 0, .ref h21, .ref h22, .ref h23, .int 0]))] := hD
      have hw : r_3 = 0 := hw
      subst hw
      refine lv_goto (tgt := 26) hx hb dX11_fault_21 (by decide) ?_
      exact W.iret (v := 0) hx hb hr (fun t ht hW => ⟨⟨0, (), rfl, Or.inr (Or.inl ⟨c_1, c_2, rfl⟩), trivial⟩, hS.F ht⟩) hS.2.2 dX11_fault_26
  · have i_1 : p0.toInt = 0 := z5 rfl (by decide) c_1
    refine lv_aload_n hx hb dX11_fault_4 rfl (lv_at hl 0 rfl) ?_
    have hPc := hP.sub (ws' := [(h0, .inr (11, [.int 0, .ref h1, .int 0, .int 0, .int 0, .int 0, .ref h2, .ref h3, .ref h4, .ref h5, .ref h6, .ref h7, .ref h8, .int 0, .int 0, .ref h9, .ref h10, .ref h11, .ref h12, .ref h13, .int 0, .int 0, .ref h14, .ref h15, .ref h16, .int 0, .int 0, .ref h17, .ref h18, .int (-1), .int 0, .ref h19, .int 0, .long 0, .ref h20, .int 0, .int 0, .ref h21, .ref h22, .ref h23, .int 0])), (h11, .inl (cI, 3, .inl (fun _ => 0)))]) [0, 3] rfl
    have hDc := hD.sub (ws' := [(h0, .inr (11, [.int 0, .ref h1, .int 0, .int 0, .int 0, .int 0, .ref h2, .ref h3, .ref h4, .ref h5, .ref h6, .ref h7, .ref h8, .int 0, .int 0, .ref h9, .ref h10, .ref h11, .ref h12, .ref h13, .int 0, .int 0, .ref h14, .ref h15, .ref h16, .int 0, .int 0, .ref h17, .ref h18, .int (-1), .int 0, .ref h19, .int 0, .long 0, .ref h20, .int 0, .int 0, .ref h21, .ref h22, .ref h23, .int 0])), (h11, .inl (cI, 3, .inl (fun _ => 0)))]) [0, 3] (by decide) rfl
    have hFc := va_free (wc := [(h0, .inr (11, [.int 0, .ref h1, .int 0, .int 0, .int 0, .int 0, .ref h2, .ref h3, .ref h4, .ref h5, .ref h6, .ref h7, .ref h8, .int 0, .int 0, .ref h9, .ref h10, .ref h11, .ref h12, .ref h13, .int 0, .int 0, .ref h14, .ref h15, .ref h16, .int 0, .int 0, .ref h17, .ref h18, .int (-1), .int 0, .ref h19, .int 0, .long 0, .ref h20, .int 0, .int 0, .ref h21, .ref h22, .ref h23, .int 0])), (h11, .inl (cI, 3, .inl (fun _ => 0)))]) hD hS hA [0, 3] rfl
    refine va_calli (va_runV (As := []) (rest := []) ⟨hx, hb, hml, hown, hts⟩ (c_X11_readCourt l dC dI cI cJ h0 h1 h2 h3 h4 h5 h6 h7 h8 h9 h10 h11 h12 h13 h14 h15 h16 h17 h18 h19 h20 h21 h22 h23 H.size) (cwV 0 hts (zgV qw1270 qw1272 qw31 qw108 qw1273) rfl rfl rfl hd_X11_readCourt ⟨Nat.le_of_ble_eq_true rfl, Nat.le_of_ble_eq_true rfl⟩) (zPV hPc hK hDc (va_recv hK hP (ci := 11) (q0 := 0) rfl rfl)) rfl rfl hl.1 rfl (lv_room (Nat.le_of_ble_eq_true rfl)) dX11_fault_5 ⟨Nat.le_of_ble_eq_true rfl, Nat.le_of_ble_eq_true rfl⟩) hS (fun q _ h => hFc q h) hFc (fun r_4 u t H locs ht hvm hw hB hz1 hk1 hS => ?_)
    obtain ⟨hP1, hD1⟩ := hB
    rw [ht] at hP1
    obtain ⟨hP, hD⟩ := va_join (wr := [(h4, .inl (cI, 5, .inl (fun _ => 0))), (h5, .inl (cI, 5, .inl (fun _ => 0)))]) (w1 := [(h11, .inl (cI, 3, .inl (upd (upd (upd (fun _ => 0) 0 40) 1 5) 2 3))), (h0, .inr (11, [.int 0, .ref h1, .int 0, .int 0, .int 0, .int 0, .ref h2, .ref h3, .ref h4, .ref h5, .ref h6, .ref h7, .ref h8, .int 0, .int 0, .ref h9, .ref h10, .ref h11, .ref h12, .ref h13, .int 0, .int 0, .ref h14, .ref h15, .ref h16, .int 0, .int 0, .ref h17, .ref h18, .int (-1), .int 0, .ref h19, .int 0, .long 0, .ref h20, .int 0, .int 0, .ref h21, .ref h22, .ref h23, .int 0]))]) hP hD [0, 3] [1, 2] rfl rfl (by decide) (by decide) hk1 hFc hP1 hD1
    have hP : va_P (dC, dI) vwCl [(h4, .inl (cI, 5, .inl (fun _ => 0))), (h5, .inl (cI, 5, .inl (fun _ => 0))), (h11, .inl (cI, 3, .inl (upd (upd (upd (fun _ => 0) 0 40) 1 5) 2 3))), (h0, .inr (11, [.int 0, .ref h1, .int 0, .int 0, .int 0, .int 0, .ref h2, .ref h3, .ref h4, .ref h5, .ref h6, .ref h7, .ref h8, .int 0, .int 0, .ref h9, .ref h10, .ref h11, .ref h12, .ref h13, .int 0, .int 0, .ref h14, .ref h15, .ref h16, .int 0, .int 0, .ref h17, .ref h18, .int (-1), .int 0, .ref h19, .int 0, .long 0, .ref h20, .int 0, .int 0, .ref h21, .ref h22, .ref h23, .int 0]))] H := hP
    have hD : va_D A [(h4, .inl (cI, 5, .inl (fun _ => 0))), (h5, .inl (cI, 5, .inl (fun _ => 0))), (h11, .inl (cI, 3, .inl (upd (upd (upd (fun _ => 0) 0 40) 1 5) 2 3))), (h0, .inr (11, [.int 0, .ref h1, .int 0, .int 0, .int 0, .int 0, .ref h2, .ref h3, .ref h4, .ref h5, .ref h6, .ref h7, .ref h8, .int 0, .int 0, .ref h9, .ref h10, .ref h11, .ref h12, .ref h13, .int 0, .int 0, .ref h14, .ref h15, .ref h16, .int 0, .int 0, .ref h17, .ref h18, .int (-1), .int 0, .ref h19, .int 0, .long 0, .ref h20, .int 0, .int 0, .ref h21, .ref h22, .ref h23, .int 0]))] := hD
    have hw : r_4 = 0 := hw
    subst hw
    refine lv_goto (tgt := 26) hx hb dX11_fault_8 (by decide) ?_
    exact W.iret (v := 0) hx hb hr (fun t ht hW => ⟨⟨0, (), rfl, Or.inr (Or.inr (⟨c_1, rfl⟩)), trivial⟩, hS.F ht⟩) hS.2.2 dX11_fault_26
set_option maxHeartbeats 4000000 in
set_option maxRecDepth 100000 in
theorem c_X10_text (l : Launch) (dC : Nat → ClassId) (dI : Nat → Nat → Nat) (cI cJ : ClassId) (h0 h1 h2 h3 h4 h5 h6 h7 h8 h9 h10 h11 h12 h13 h14 h15 h16 h17 h18 : Nat) (g0 : Nat) (sz : Nat) (p0 : Int32) : Met l yX10_text (.code yX10_text cX10_text 2 (some .int) :: wA) ({ frames := 4, cells := 0, slots := 0, locals := 86 }) (zPF (dC, dI) [(cI, .int), (cJ, .long)] [.ref h0, .int p0] sz [(h0, .inr (10, [.ref h1, .ref h2, .ref h3, .ref h4, .ref h5, .ref h6, .ref h7, .ref h8, .ref h9, .ref h10, .ref h11, .ref h12, .ref h13, .int 0, .int (-1), .int 0, .int 0])), (h1, .inr (9, [.ref h14, .int 0, .int 0])), (h2, .inr (2, [.null, .null, .int 0])), (h3, .inr (5, [.ref h15, .int 0, .null])), (h4, .inr (1, [.ref h16, .ref h17, .ref h18, .int 0, .int 0])), (h16, .inl (cI, 3, .inl (fun _ => 0)))] g0) (va_Qi (fun (r : Int32) (_ : Unit) => r = (-1)) (fun (_ : Unit) (_ : State) => True) (va_A [(h0, .inr (10, [.ref h1, .ref h2, .ref h3, .ref h4, .ref h5, .ref h6, .ref h7, .ref h8, .ref h9, .ref h10, .ref h11, .ref h12, .ref h13, .int 0, .int (-1), .int 0, .int 0])), (h1, .inr (9, [.ref h14, .int 0, .int 0])), (h2, .inr (2, [.null, .null, .int 0])), (h3, .inr (5, [.ref h15, .int 0, .null])), (h4, .inr (1, [.ref h16, .ref h17, .ref h18, .int 0, .int 0])), (h16, .inl (cI, 3, .inl (fun _ => 0)))] sz)) 0 0 (va_A [(h0, .inr (10, [.ref h1, .ref h2, .ref h3, .ref h4, .ref h5, .ref h6, .ref h7, .ref h8, .ref h9, .ref h10, .ref h11, .ref h12, .ref h13, .int 0, .int (-1), .int 0, .int 0])), (h1, .inr (9, [.ref h14, .int 0, .int 0])), (h2, .inr (2, [.null, .null, .int 0])), (h3, .inr (5, [.ref h15, .int 0, .null])), (h4, .inr (1, [.ref h16, .ref h17, .ref h18, .int 0, .int 0])), (h16, .inl (cI, 3, .inl (fun _ => 0)))] sz) := by
  refine Met.ofW (cc := cX10_text) (maxL := 2) (ret := (some .int)) (by decide) rfl ?_
  intro p e s m args below meth c s₁ B hml hv
  obtain ⟨⟨rfl, hsz, hP, hK, hT⟩, hF⟩ := hv
  have hx := B.exec
  have hb := B.bytes
  have hr := B.returns
  have hts : ∀ w ∈ wA, w.before _ s = true := fun w h => atoms_spec (ws := .code yX10_text cX10_text 2 (some .int) :: wA) B.pre w (List.mem_cons_of_mem _ h)
  have hown : s.vm.findClass RX10 = some m.cls := findClass_of_methodNamed B.named
  have hlocks := B.notSynchronized
  subst hsz
  have hD := hT.self (sz := s.heap.size)
  generalize hAe : va_A [(h0, .inr (10, [.ref h1, .ref h2, .ref h3, .ref h4, .ref h5, .ref h6, .ref h7, .ref h8, .ref h9, .ref h10, .ref h11, .ref h12, .ref h13, .int 0, .int (-1), .int 0, .int 0])), (h1, .inr (9, [.ref h14, .int 0, .int 0])), (h2, .inr (2, [.null, .null, .int 0])), (h3, .inr (5, [.ref h15, .int 0, .null])), (h4, .inr (1, [.ref h16, .ref h17, .ref h18, .int 0, .int 0])), (h16, .inl (cI, 3, .inl (fun _ => 0)))] s.heap.size = A at hD hF ⊢
  have hA : ∀ q : Nat, s.heap.size ≤ q → A q := fun q h => by rw [← hAe]; exact Or.inr h
  have hl := lv_entry ([.ref h0, .int p0]) (n := 2) (Nat.le_of_ble_eq_true rfl)
  rw [lg_entry_eq]
  generalize (lg_sl ([.ref h0, .int p0]) ++ List.replicate (2 - (lg_sl ([.ref h0, .int p0])).length) Slot.unset).toArray = ls at hl ⊢
  have hl : lv_has ls 2 [(0, .ref h0), (1, .int p0)] := hl
  refine zstart (fun H hH => ?_)
  rw [← hH] at hP
  have hS : va_S A s.heap H [] := by rw [hH]; exact va_S.rf
  refine lv_iload_n hx hb dX10_text_0 rfl (lv_at hl 1 rfl) ?_
  refine lv_if_ne (tgt := 28) hx hb dX10_text_1 (by decide) (fun c_1 => ?_) (fun c_1 => ?_)
  · have i_1 : ¬ p0.toInt = 0 := z6 rfl (by decide) c_1
    refine lv_iload_n hx hb dX10_text_28 rfl (lv_at hl 1 rfl) ?_
    refine lv_iconst (v := 1) hx hb dX10_text_29 (by decide) ?_
    refine lv_icmp_ne (tgt := 61) hx hb dX10_text_30 (by decide) (fun c_2 => ?_) (fun c_2 => ?_)
    · have i_2 : ¬ p0.toInt = 1 := z6 rfl (by decide) c_2
      refine lv_iconst (v := (-1)) hx hb dX10_text_61 (by decide) ?_
      exact W.iret (v := ((-1))) hx hb hr (fun t ht hW => ⟨⟨(-1), (), rfl, rfl, trivial⟩, hS.F ht⟩) hS.2.2 dX10_text_62
    · have i_2 : p0.toInt = 1 := z5 rfl (by decide) c_2
      refine lv_aload_n hx hb dX10_text_33 rfl (lv_at hl 0 rfl) ?_
      refine va_get (D := (dC, dI)) (ci := 10) (v := .int 0) (C := RX10) (T := TX10) (N := 17) hx hb hts iX10 hown hK hP 0 rfl rfl 13 (by decide) (hts _ qw369) (fun _ h9 => h9) rfl dX10_text_34 ?_
      refine lv_iconst (v := 4) hx hb dX10_text_37 (by decide) ?_
      refine lv_icmp_ge (tgt := 61) hx hb dX10_text_38 (by decide) (fun c => absurd c (by decide)) (fun _ => ?_)
      refine lv_aload_n hx hb dX10_text_41 rfl (lv_at hl 0 rfl) ?_
      refine va_get (D := (dC, dI)) (ci := 10) (v := .ref h3) (C := RX10) (T := TX10) (N := 17) hx hb hts iX10 hown hK hP 0 rfl rfl 2 (by decide) (hts _ qw358) (fun _ h9 => h9) rfl dX10_text_42 ?_
      refine lv_aload_n hx hb dX10_text_45 rfl (lv_at hl 0 rfl) ?_
      refine va_get (D := (dC, dI)) (ci := 10) (v := .ref h1) (C := RX10) (T := TX10) (N := 17) hx hb hts iX10 hown hK hP 0 rfl rfl 0 (by decide) (hts _ qw356) (fun _ h9 => h9) rfl dX10_text_46 ?_
      have hPc := hP.sub (ws' := [(h1, .inr (9, [.ref h14, .int 0, .int 0])), (h3, .inr (5, [.ref h15, .int 0, .null]))]) [1, 3] rfl
      have hDc := hD.sub (ws' := [(h1, .inr (9, [.ref h14, .int 0, .int 0])), (h3, .inr (5, [.ref h15, .int 0, .null]))]) [1, 3] (by decide) rfl
      have hFc := va_free (wc := [(h1, .inr (9, [.ref h14, .int 0, .int 0])), (h3, .inr (5, [.ref h15, .int 0, .null]))]) hD hS hA [1, 3] rfl
      refine va_calli (va_runV (As := [.ref h1]) (rest := []) ⟨hx, hb, hml, hown, hts⟩ (c_X5_read l dC dI cI cJ h3 h1 h14 h15 H.size) (cwV 1 hts (zgV qw476 qw477 qw478 qw101 qw479) rfl rfl rfl hd_X5_read ⟨Nat.le_of_ble_eq_true rfl, Nat.le_of_ble_eq_true rfl⟩) (zPV hPc hK hDc (va_recv hK hP (ci := 5) (q0 := 3) rfl rfl)) rfl rfl hl.1 rfl (lv_room (Nat.le_of_ble_eq_true rfl)) dX10_text_49 ⟨Nat.le_of_ble_eq_true rfl, Nat.le_of_ble_eq_true rfl⟩) hS (fun q _ h => hFc q h) hFc (fun r_3 u t H locs ht hvm hw hB hz1 hk1 hS => ?_)
      obtain ⟨hP1, hD1⟩ := hB
      rw [ht] at hP1
      obtain ⟨hP, hD⟩ := va_join (wr := [(h0, .inr (10, [.ref h1, .ref h2, .ref h3, .ref h4, .ref h5, .ref h6, .ref h7, .ref h8, .ref h9, .ref h10, .ref h11, .ref h12, .ref h13, .int 0, .int (-1), .int 0, .int 0])), (h2, .inr (2, [.null, .null, .int 0])), (h4, .inr (1, [.ref h16, .ref h17, .ref h18, .int 0, .int 0])), (h16, .inl (cI, 3, .inl (fun _ => 0)))]) (w1 := [(h1, .inr (9, [.ref h14, .int 0, .int 0])), (h3, .inr (5, [.ref h15, .int 0, .ref h1]))]) hP hD [1, 3] [0, 2, 4, 5] rfl rfl (by decide) (by decide) hk1 hFc hP1 hD1
      have hP : va_P (dC, dI) vwCl [(h0, .inr (10, [.ref h1, .ref h2, .ref h3, .ref h4, .ref h5, .ref h6, .ref h7, .ref h8, .ref h9, .ref h10, .ref h11, .ref h12, .ref h13, .int 0, .int (-1), .int 0, .int 0])), (h2, .inr (2, [.null, .null, .int 0])), (h4, .inr (1, [.ref h16, .ref h17, .ref h18, .int 0, .int 0])), (h16, .inl (cI, 3, .inl (fun _ => 0))), (h1, .inr (9, [.ref h14, .int 0, .int 0])), (h3, .inr (5, [.ref h15, .int 0, .ref h1]))] H := hP
      have hD : va_D A [(h0, .inr (10, [.ref h1, .ref h2, .ref h3, .ref h4, .ref h5, .ref h6, .ref h7, .ref h8, .ref h9, .ref h10, .ref h11, .ref h12, .ref h13, .int 0, .int (-1), .int 0, .int 0])), (h2, .inr (2, [.null, .null, .int 0])), (h4, .inr (1, [.ref h16, .ref h17, .ref h18, .int 0, .int 0])), (h16, .inl (cI, 3, .inl (fun _ => 0))), (h1, .inr (9, [.ref h14, .int 0, .int 0])), (h3, .inr (5, [.ref h15, .int 0, .ref h1]))] := hD
      have hw : r_3 = 0 := hw
      subst hw
      refine lv_iconst (v := (-1)) hx hb dX10_text_52 (by decide) ?_
      refine lv_icmp_ne (tgt := 61) hx hb dX10_text_53 (by decide) (fun _ => ?_) (fun c => absurd c (by decide))
      refine lv_iconst (v := (-1)) hx hb dX10_text_61 (by decide) ?_
      exact W.iret (v := ((-1))) hx hb hr (fun t ht hW => ⟨⟨(-1), (), rfl, rfl, trivial⟩, hS.F ht⟩) hS.2.2 dX10_text_62
  · have i_1 : p0.toInt = 0 := z5 rfl (by decide) c_1
    refine lv_aload_n hx hb dX10_text_4 rfl (lv_at hl 0 rfl) ?_
    refine va_get (D := (dC, dI)) (ci := 10) (v := .ref h2) (C := RX10) (T := TX10) (N := 17) hx hb hts iX10 hown hK hP 0 rfl rfl 1 (by decide) (hts _ qw357) (fun _ h9 => h9) rfl dX10_text_5 ?_
    refine lv_aload_n hx hb dX10_text_8 rfl (lv_at hl 0 rfl) ?_
    refine va_get (D := (dC, dI)) (ci := 10) (v := .ref h1) (C := RX10) (T := TX10) (N := 17) hx hb hts iX10 hown hK hP 0 rfl rfl 0 (by decide) (hts _ qw356) (fun _ h9 => h9) rfl dX10_text_9 ?_
    refine lv_aload_n hx hb dX10_text_12 rfl (lv_at hl 0 rfl) ?_
    refine va_get (D := (dC, dI)) (ci := 10) (v := .ref h4) (C := RX10) (T := TX10) (N := 17) hx hb hts iX10 hown hK hP 0 rfl rfl 3 (by decide) (hts _ qw359) (fun _ h9 => h9) rfl dX10_text_13 ?_
    have hPc := hP.sub (ws' := [(h1, .inr (9, [.ref h14, .int 0, .int 0])), (h2, .inr (2, [.null, .null, .int 0])), (h4, .inr (1, [.ref h16, .ref h17, .ref h18, .int 0, .int 0])), (h16, .inl (cI, 3, .inl (fun _ => 0)))]) [1, 2, 4, 5] rfl
    have hDc := hD.sub (ws' := [(h1, .inr (9, [.ref h14, .int 0, .int 0])), (h2, .inr (2, [.null, .null, .int 0])), (h4, .inr (1, [.ref h16, .ref h17, .ref h18, .int 0, .int 0])), (h16, .inl (cI, 3, .inl (fun _ => 0)))]) [1, 2, 4, 5] (by decide) rfl
    have hFc := va_free (wc := [(h1, .inr (9, [.ref h14, .int 0, .int 0])), (h2, .inr (2, [.null, .null, .int 0])), (h4, .inr (1, [.ref h16, .ref h17, .ref h18, .int 0, .int 0])), (h16, .inl (cI, 3, .inl (fun _ => 0)))]) hD hS hA [1, 2, 4, 5] rfl
    refine va_calli (va_runV (As := [.ref h1, .ref h4]) (rest := []) ⟨hx, hb, hml, hown, hts⟩ (c_X2_read l dC dI cI cJ h2 h1 h4 h14 h16 h17 h18 g0 H.size) (cwV 2 hts (zgV qw424 qw425 qw426 qw100 qw427) rfl rfl rfl hd_X2_read ⟨Nat.le_of_ble_eq_true rfl, Nat.le_of_ble_eq_true rfl⟩) (zPFV hPc hK hDc (va_recv hK hP (ci := 2) (q0 := 2) rfl rfl) (zF_call hF hS hFc)) rfl rfl hl.1 rfl (lv_room (Nat.le_of_ble_eq_true rfl)) dX10_text_16 ⟨Nat.le_of_ble_eq_true rfl, Nat.le_of_ble_eq_true rfl⟩) hS (fun q _ h => hFc q h) hFc (fun r_4 u t H locs ht hvm hw hB hz1 hk1 hS => ?_)
    obtain ⟨hP1, hD1⟩ := hB
    rw [ht] at hP1
    obtain ⟨hP, hD⟩ := va_join (wr := [(h0, .inr (10, [.ref h1, .ref h2, .ref h3, .ref h4, .ref h5, .ref h6, .ref h7, .ref h8, .ref h9, .ref h10, .ref h11, .ref h12, .ref h13, .int 0, .int (-1), .int 0, .int 0])), (h3, .inr (5, [.ref h15, .int 0, .null]))]) (w1 := [(h1, .inr (9, [.ref h14, .int 0, .int 0])), (h2, .inr (2, [.ref h1, .ref h4, .int 0])), (h4, .inr (1, [.ref h16, .ref h17, .ref h18, .int 0, .int 0])), (h16, .inl (cI, 3, .inl (va_cpy zRD (fun _ => 0) 0 0 3)))]) hP hD [1, 2, 4, 5] [0, 3] rfl rfl (by decide) (by decide) hk1 hFc hP1 hD1
    have hP : va_P (dC, dI) vwCl [(h0, .inr (10, [.ref h1, .ref h2, .ref h3, .ref h4, .ref h5, .ref h6, .ref h7, .ref h8, .ref h9, .ref h10, .ref h11, .ref h12, .ref h13, .int 0, .int (-1), .int 0, .int 0])), (h3, .inr (5, [.ref h15, .int 0, .null])), (h1, .inr (9, [.ref h14, .int 0, .int 0])), (h2, .inr (2, [.ref h1, .ref h4, .int 0])), (h4, .inr (1, [.ref h16, .ref h17, .ref h18, .int 0, .int 0])), (h16, .inl (cI, 3, .inl (va_cpy zRD (fun _ => 0) 0 0 3)))] H := hP
    have hD : va_D A [(h0, .inr (10, [.ref h1, .ref h2, .ref h3, .ref h4, .ref h5, .ref h6, .ref h7, .ref h8, .ref h9, .ref h10, .ref h11, .ref h12, .ref h13, .int 0, .int (-1), .int 0, .int 0])), (h3, .inr (5, [.ref h15, .int 0, .null])), (h1, .inr (9, [.ref h14, .int 0, .int 0])), (h2, .inr (2, [.ref h1, .ref h4, .int 0])), (h4, .inr (1, [.ref h16, .ref h17, .ref h18, .int 0, .int 0])), (h16, .inl (cI, 3, .inl (va_cpy zRD (fun _ => 0) 0 0 3)))] := hD
    have hw : r_4 = 0 := hw
    subst hw
    refine lv_iconst (v := (-1)) hx hb dX10_text_19 (by decide) ?_
    refine lv_icmp_ne (tgt := 28) hx hb dX10_text_20 (by decide) (fun _ => ?_) (fun c => absurd c (by decide))
    refine lv_iload_n hx hb dX10_text_28 rfl (lv_at hl 1 rfl) ?_
    refine lv_iconst (v := 1) hx hb dX10_text_29 (by decide) ?_
    refine lv_icmp_ne (tgt := 61) hx hb dX10_text_30 (by decide) (fun c_5 => ?_) (fun c_5 => by exfalso; have i_5 : p0.toInt = 1 := z5 rfl (by decide) c_5; omega)
    have i_5 : ¬ p0.toInt = 1 := z6 rfl (by decide) c_5
    refine lv_iconst (v := (-1)) hx hb dX10_text_61 (by decide) ?_
    exact W.iret (v := ((-1))) hx hb hr (fun t ht hW => ⟨⟨(-1), (), rfl, rfl, trivial⟩, hS.F ht⟩) hS.2.2 dX10_text_62
set_option maxHeartbeats 4000000 in
set_option maxRecDepth 100000 in
theorem c_X11_open_1 (l : Launch) (dC : Nat → ClassId) (dI : Nat → Nat → Nat) (cI cJ : ClassId) (h0 h1 h2 h3 h4 h5 h6 h7 h8 h9 h10 h11 h12 h13 h14 h15 h16 h17 h18 h19 h20 h21 h22 h23 : Nat) (sz : Nat) : Met l yX11_open (.code yX11_open cX11_open 2 none :: wA) ({ frames := 0, cells := 0, slots := 0, locals := 0 }) (zP (dC, dI) [(cI, .int), (cJ, .long)] [.ref h0, .int 0] sz [(h0, .inr (11, [.int 0, .ref h1, .int 0, .int 0, .int 0, .int 0, .ref h2, .ref h3, .ref h4, .ref h5, .ref h6, .ref h7, .ref h8, .int 0, .int 0, .ref h9, .ref h10, .ref h11, .ref h12, .ref h13, .int 0, .int 0, .ref h14, .ref h15, .ref h16, .int 0, .int 0, .ref h17, .ref h18, .int (-1), .int 0, .ref h19, .int 0, .long 0, .ref h20, .int 0, .int 0, .ref h21, .ref h22, .ref h23, .int 0])), (h4, .inl (cI, 5, .inl (fun _ => 0))), (h5, .inl (cI, 5, .inl (fun _ => 0)))]) (va_Qv (fun (_ : Unit) => True) (fun (_ : Unit) (t : State) => va_P (dC, dI) vwCl [(h0, .inr (11, [.int 0, .ref h1, .int 0, .int 0, .int (-1), .int 0, .ref h2, .ref h3, .ref h4, .ref h5, .ref h6, .ref h7, .ref h8, .int 0, .int 0, .ref h9, .ref h10, .ref h11, .ref h12, .ref h13, .int 0, .int 0, .ref h14, .ref h15, .ref h16, .int 0, .int 0, .ref h17, .ref h18, .int (-1), .int 0, .ref h19, .int 0, .long 0, .ref h20, .int 0, .int 0, .ref h21, .ref h22, .ref h23, .int 0])), (h4, .inl (cI, 5, .inl (upd (fun _ => 0) 0 0))), (h5, .inl (cI, 5, .inl (upd (fun _ => 0) 0 0)))] t.heap ∧ va_D (va_A [(h0, .inr (11, [.int 0, .ref h1, .int 0, .int 0, .int 0, .int 0, .ref h2, .ref h3, .ref h4, .ref h5, .ref h6, .ref h7, .ref h8, .int 0, .int 0, .ref h9, .ref h10, .ref h11, .ref h12, .ref h13, .int 0, .int 0, .ref h14, .ref h15, .ref h16, .int 0, .int 0, .ref h17, .ref h18, .int (-1), .int 0, .ref h19, .int 0, .long 0, .ref h20, .int 0, .int 0, .ref h21, .ref h22, .ref h23, .int 0])), (h4, .inl (cI, 5, .inl (fun _ => 0))), (h5, .inl (cI, 5, .inl (fun _ => 0)))] sz) [(h0, .inr (11, [.int 0, .ref h1, .int 0, .int 0, .int (-1), .int 0, .ref h2, .ref h3, .ref h4, .ref h5, .ref h6, .ref h7, .ref h8, .int 0, .int 0, .ref h9, .ref h10, .ref h11, .ref h12, .ref h13, .int 0, .int 0, .ref h14, .ref h15, .ref h16, .int 0, .int 0, .ref h17, .ref h18, .int (-1), .int 0, .ref h19, .int 0, .long 0, .ref h20, .int 0, .int 0, .ref h21, .ref h22, .ref h23, .int 0])), (h4, .inl (cI, 5, .inl (upd (fun _ => 0) 0 0))), (h5, .inl (cI, 5, .inl (upd (fun _ => 0) 0 0)))]) (va_A [(h0, .inr (11, [.int 0, .ref h1, .int 0, .int 0, .int 0, .int 0, .ref h2, .ref h3, .ref h4, .ref h5, .ref h6, .ref h7, .ref h8, .int 0, .int 0, .ref h9, .ref h10, .ref h11, .ref h12, .ref h13, .int 0, .int 0, .ref h14, .ref h15, .ref h16, .int 0, .int 0, .ref h17, .ref h18, .int (-1), .int 0, .ref h19, .int 0, .long 0, .ref h20, .int 0, .int 0, .ref h21, .ref h22, .ref h23, .int 0])), (h4, .inl (cI, 5, .inl (fun _ => 0))), (h5, .inl (cI, 5, .inl (fun _ => 0)))] sz)) 0 0 (va_A [(h0, .inr (11, [.int 0, .ref h1, .int 0, .int 0, .int 0, .int 0, .ref h2, .ref h3, .ref h4, .ref h5, .ref h6, .ref h7, .ref h8, .int 0, .int 0, .ref h9, .ref h10, .ref h11, .ref h12, .ref h13, .int 0, .int 0, .ref h14, .ref h15, .ref h16, .int 0, .int 0, .ref h17, .ref h18, .int (-1), .int 0, .ref h19, .int 0, .long 0, .ref h20, .int 0, .int 0, .ref h21, .ref h22, .ref h23, .int 0])), (h4, .inl (cI, 5, .inl (fun _ => 0))), (h5, .inl (cI, 5, .inl (fun _ => 0)))] sz) := by
  refine Met.ofW (cc := cX11_open) (maxL := 2) (ret := none) (by decide) rfl ?_
  intro p e s m args below meth c s₁ B hml hv
  obtain ⟨rfl, hsz, hP, hK, hT⟩ := hv
  have hx := B.exec
  have hb := B.bytes
  have hr := B.returns
  have hts : ∀ w ∈ wA, w.before _ s = true := fun w h => atoms_spec (ws := .code yX11_open cX11_open 2 none :: wA) B.pre w (List.mem_cons_of_mem _ h)
  have hown : s.vm.findClass RX11 = some m.cls := findClass_of_methodNamed B.named
  have hlocks := B.notSynchronized
  subst hsz
  have hD := hT.self (sz := s.heap.size)
  generalize hAe : va_A [(h0, .inr (11, [.int 0, .ref h1, .int 0, .int 0, .int 0, .int 0, .ref h2, .ref h3, .ref h4, .ref h5, .ref h6, .ref h7, .ref h8, .int 0, .int 0, .ref h9, .ref h10, .ref h11, .ref h12, .ref h13, .int 0, .int 0, .ref h14, .ref h15, .ref h16, .int 0, .int 0, .ref h17, .ref h18, .int (-1), .int 0, .ref h19, .int 0, .long 0, .ref h20, .int 0, .int 0, .ref h21, .ref h22, .ref h23, .int 0])), (h4, .inl (cI, 5, .inl (fun _ => 0))), (h5, .inl (cI, 5, .inl (fun _ => 0)))] s.heap.size = A at hD ⊢
  have hA : ∀ q : Nat, s.heap.size ≤ q → A q := fun q h => by rw [← hAe]; exact Or.inr h
  have hl := lv_entry ([.ref h0, .int 0]) (n := 2) (Nat.le_of_ble_eq_true rfl)
  rw [lg_entry_eq]
  generalize (lg_sl ([.ref h0, .int 0]) ++ List.replicate (2 - (lg_sl ([.ref h0, .int 0])).length) Slot.unset).toArray = ls at hl ⊢
  have hl : lv_has ls 2 [(0, .ref h0), (1, .int 0)] := hl
  refine zstart (fun H hH => ?_)
  rw [← hH] at hP
  have hS : va_S A s.heap H [] := by rw [hH]; exact va_S.rf
  refine lv_aload_n hx hb dX11_open_0 rfl (lv_at hl 0 rfl) ?_
  refine lv_iload_n hx hb dX11_open_1 rfl (lv_at hl 1 rfl) ?_
  refine va_put (D := (dC, dI)) (ci := 11) (v := .int 0) (ty := .int) (C := RX11) (T := TX11) (N := 41) hx hb hts iX11 tyX11 tyX11_ok nmX11 hown hK hP hD hS 0 rfl rfl 14 (by decide) (hts _ qw1141) (fun _ h9 => h9) rfl (by decide +kernel) rfl rfl (Nat.le_of_ble_eq_true rfl) dX11_open_2 (fun H locs hP hD hS => ?_)
  have hP : va_P (dC, dI) vwCl [(h0, .inr (11, [.int 0, .ref h1, .int 0, .int 0, .int 0, .int 0, .ref h2, .ref h3, .ref h4, .ref h5, .ref h6, .ref h7, .ref h8, .int 0, .int 0, .ref h9, .ref h10, .ref h11, .ref h12, .ref h13, .int 0, .int 0, .ref h14, .ref h15, .ref h16, .int 0, .int 0, .ref h17, .ref h18, .int (-1), .int 0, .ref h19, .int 0, .long 0, .ref h20, .int 0, .int 0, .ref h21, .ref h22, .ref h23, .int 0])), (h4, .inl (cI, 5, .inl (fun _ => 0))), (h5, .inl (cI, 5, .inl (fun _ => 0)))] H := hP
  have hD : va_D A [(h0, .inr (11, [.int 0, .ref h1, .int 0, .int 0, .int 0, .int 0, .ref h2, .ref h3, .ref h4, .ref h5, .ref h6, .ref h7, .ref h8, .int 0, .int 0, .ref h9, .ref h10, .ref h11, .ref h12, .ref h13, .int 0, .int 0, .ref h14, .ref h15, .ref h16, .int 0, .int 0, .ref h17, .ref h18, .int (-1), .int 0, .ref h19, .int 0, .long 0, .ref h20, .int 0, .int 0, .ref h21, .ref h22, .ref h23, .int 0])), (h4, .inl (cI, 5, .inl (fun _ => 0))), (h5, .inl (cI, 5, .inl (fun _ => 0)))] := hD
  refine lv_aload_n hx hb dX11_open_5 rfl (lv_at hl 0 rfl) ?_
  refine lv_iconst (v := 0) hx hb dX11_open_6 (by decide) ?_
  refine va_put (D := (dC, dI)) (ci := 11) (v := .int 0) (ty := .int) (C := RX11) (T := TX11) (N := 41) hx hb hts iX11 tyX11 tyX11_ok nmX11 hown hK hP hD hS 0 rfl rfl 3 (by decide) (hts _ qw1130) (fun _ h9 => h9) rfl (by decide +kernel) rfl rfl (Nat.le_of_ble_eq_true rfl) dX11_open_7 (fun H locs hP hD hS => ?_)
  have hP : va_P (dC, dI) vwCl [(h0, .inr (11, [.int 0, .ref h1, .int 0, .int 0, .int 0, .int 0, .ref h2, .ref h3, .ref h4, .ref h5, .ref h6, .ref h7, .ref h8, .int 0, .int 0, .ref h9, .ref h10, .ref h11, .ref h12, .ref h13, .int 0, .int 0, .ref h14, .ref h15, .ref h16, .int 0, .int 0, .ref h17, .ref h18, .int (-1), .int 0, .ref h19, .int 0, .long 0, .ref h20, .int 0, .int 0, .ref h21, .ref h22, .ref h23, .int 0])), (h4, .inl (cI, 5, .inl (fun _ => 0))), (h5, .inl (cI, 5, .inl (fun _ => 0)))] H := hP
  have hD : va_D A [(h0, .inr (11, [.int 0, .ref h1, .int 0, .int 0, .int 0, .int 0, .ref h2, .ref h3, .ref h4, .ref h5, .ref h6, .ref h7, .ref h8, .int 0, .int 0, .ref h9, .ref h10, .ref h11, .ref h12, .ref h13, .int 0, .int 0, .ref h14, .ref h15, .ref h16, .int 0, .int 0, .ref h17, .ref h18, .int (-1), .int 0, .ref h19, .int 0, .long 0, .ref h20, .int 0, .int 0, .ref h21, .ref h22, .ref h23, .int 0])), (h4, .inl (cI, 5, .inl (fun _ => 0))), (h5, .inl (cI, 5, .inl (fun _ => 0)))] := hD
  refine lv_aload_n hx hb dX11_open_10 rfl (lv_at hl 0 rfl) ?_
  refine lv_iconst (v := (-1)) hx hb dX11_open_11 (by decide) ?_
  refine va_put (D := (dC, dI)) (ci := 11) (v := .int (-1)) (ty := .int) (C := RX11) (T := TX11) (N := 41) hx hb hts iX11 tyX11 tyX11_ok nmX11 hown hK hP hD hS 0 rfl rfl 4 (by decide) (hts _ qw1131) (fun _ h9 => h9) rfl (by decide +kernel) rfl rfl (Nat.le_of_ble_eq_true rfl) dX11_open_12 (fun H locs hP hD hS => ?_)
  have hP : va_P (dC, dI) vwCl [(h0, .inr (11, [.int 0, .ref h1, .int 0, .int 0, .int (-1), .int 0, .ref h2, .ref h3, .ref h4, .ref h5, .ref h6, .ref h7, .ref h8, .int 0, .int 0, .ref h9, .ref h10, .ref h11, .ref h12, .ref h13, .int 0, .int 0, .ref h14, .ref h15, .ref h16, .int 0, .int 0, .ref h17, .ref h18, .int (-1), .int 0, .ref h19, .int 0, .long 0, .ref h20, .int 0, .int 0, .ref h21, .ref h22, .ref h23, .int 0])), (h4, .inl (cI, 5, .inl (fun _ => 0))), (h5, .inl (cI, 5, .inl (fun _ => 0)))] H := hP
  have hD : va_D A [(h0, .inr (11, [.int 0, .ref h1, .int 0, .int 0, .int (-1), .int 0, .ref h2, .ref h3, .ref h4, .ref h5, .ref h6, .ref h7, .ref h8, .int 0, .int 0, .ref h9, .ref h10, .ref h11, .ref h12, .ref h13, .int 0, .int 0, .ref h14, .ref h15, .ref h16, .int 0, .int 0, .ref h17, .ref h18, .int (-1), .int 0, .ref h19, .int 0, .long 0, .ref h20, .int 0, .int 0, .ref h21, .ref h22, .ref h23, .int 0])), (h4, .inl (cI, 5, .inl (fun _ => 0))), (h5, .inl (cI, 5, .inl (fun _ => 0)))] := hD
  refine lv_aload_n hx hb dX11_open_15 rfl (lv_at hl 0 rfl) ?_
  refine lv_iconst (v := 0) hx hb dX11_open_16 (by decide) ?_
  refine va_put (D := (dC, dI)) (ci := 11) (v := .int 0) (ty := .int) (C := RX11) (T := TX11) (N := 41) hx hb hts iX11 tyX11 tyX11_ok nmX11 hown hK hP hD hS 0 rfl rfl 5 (by decide) (hts _ qw1132) (fun _ h9 => h9) rfl (by decide +kernel) rfl rfl (Nat.le_of_ble_eq_true rfl) dX11_open_17 (fun H locs hP hD hS => ?_)
  have hP : va_P (dC, dI) vwCl [(h0, .inr (11, [.int 0, .ref h1, .int 0, .int 0, .int (-1), .int 0, .ref h2, .ref h3, .ref h4, .ref h5, .ref h6, .ref h7, .ref h8, .int 0, .int 0, .ref h9, .ref h10, .ref h11, .ref h12, .ref h13, .int 0, .int 0, .ref h14, .ref h15, .ref h16, .int 0, .int 0, .ref h17, .ref h18, .int (-1), .int 0, .ref h19, .int 0, .long 0, .ref h20, .int 0, .int 0, .ref h21, .ref h22, .ref h23, .int 0])), (h4, .inl (cI, 5, .inl (fun _ => 0))), (h5, .inl (cI, 5, .inl (fun _ => 0)))] H := hP
  have hD : va_D A [(h0, .inr (11, [.int 0, .ref h1, .int 0, .int 0, .int (-1), .int 0, .ref h2, .ref h3, .ref h4, .ref h5, .ref h6, .ref h7, .ref h8, .int 0, .int 0, .ref h9, .ref h10, .ref h11, .ref h12, .ref h13, .int 0, .int 0, .ref h14, .ref h15, .ref h16, .int 0, .int 0, .ref h17, .ref h18, .int (-1), .int 0, .ref h19, .int 0, .long 0, .ref h20, .int 0, .int 0, .ref h21, .ref h22, .ref h23, .int 0])), (h4, .inl (cI, 5, .inl (fun _ => 0))), (h5, .inl (cI, 5, .inl (fun _ => 0)))] := hD
  refine lv_aload_n hx hb dX11_open_20 rfl (lv_at hl 0 rfl) ?_
  refine va_get (D := (dC, dI)) (ci := 11) (v := .ref h4) (C := RX11) (T := TX11) (N := 41) hx hb hts iX11 hown hK hP 0 rfl rfl 8 (by decide) (hts _ qw1135) (fun _ h9 => h9) rfl dX11_open_21 ?_
  refine lv_iload_n hx hb dX11_open_24 rfl (lv_at hl 1 rfl) ?_
  refine lv_iconst (v := 0) hx hb dX11_open_25 (by decide) ?_
  refine va_iast hx hb hK hP hD hS 1 0 rfl rfl (by unfold vp_in; decide) dX11_open_26 (fun H locs hP hD hS => ?_)
  have hP : va_P (dC, dI) vwCl [(h0, .inr (11, [.int 0, .ref h1, .int 0, .int 0, .int (-1), .int 0, .ref h2, .ref h3, .ref h4, .ref h5, .ref h6, .ref h7, .ref h8, .int 0, .int 0, .ref h9, .ref h10, .ref h11, .ref h12, .ref h13, .int 0, .int 0, .ref h14, .ref h15, .ref h16, .int 0, .int 0, .ref h17, .ref h18, .int (-1), .int 0, .ref h19, .int 0, .long 0, .ref h20, .int 0, .int 0, .ref h21, .ref h22, .ref h23, .int 0])), (h4, .inl (cI, 5, .inl (upd (fun _ => 0) 0 0))), (h5, .inl (cI, 5, .inl (fun _ => 0)))] H := hP
  have hD : va_D A [(h0, .inr (11, [.int 0, .ref h1, .int 0, .int 0, .int (-1), .int 0, .ref h2, .ref h3, .ref h4, .ref h5, .ref h6, .ref h7, .ref h8, .int 0, .int 0, .ref h9, .ref h10, .ref h11, .ref h12, .ref h13, .int 0, .int 0, .ref h14, .ref h15, .ref h16, .int 0, .int 0, .ref h17, .ref h18, .int (-1), .int 0, .ref h19, .int 0, .long 0, .ref h20, .int 0, .int 0, .ref h21, .ref h22, .ref h23, .int 0])), (h4, .inl (cI, 5, .inl (upd (fun _ => 0) 0 0))), (h5, .inl (cI, 5, .inl (fun _ => 0)))] := hD
  refine lv_aload_n hx hb dX11_open_27 rfl (lv_at hl 0 rfl) ?_
  refine va_get (D := (dC, dI)) (ci := 11) (v := .ref h5) (C := RX11) (T := TX11) (N := 41) hx hb hts iX11 hown hK hP 0 rfl rfl 9 (by decide) (hts _ qw1136) (fun _ h9 => h9) rfl dX11_open_28 ?_
  refine lv_iload_n hx hb dX11_open_31 rfl (lv_at hl 1 rfl) ?_
  refine lv_iconst (v := 0) hx hb dX11_open_32 (by decide) ?_
  refine va_iast hx hb hK hP hD hS 2 0 rfl rfl (by unfold vp_in; decide) dX11_open_33 (fun H locs hP hD hS => ?_)
  have hP : va_P (dC, dI) vwCl [(h0, .inr (11, [.int 0, .ref h1, .int 0, .int 0, .int (-1), .int 0, .ref h2, .ref h3, .ref h4, .ref h5, .ref h6, .ref h7, .ref h8, .int 0, .int 0, .ref h9, .ref h10, .ref h11, .ref h12, .ref h13, .int 0, .int 0, .ref h14, .ref h15, .ref h16, .int 0, .int 0, .ref h17, .ref h18, .int (-1), .int 0, .ref h19, .int 0, .long 0, .ref h20, .int 0, .int 0, .ref h21, .ref h22, .ref h23, .int 0])), (h4, .inl (cI, 5, .inl (upd (fun _ => 0) 0 0))), (h5, .inl (cI, 5, .inl (upd (fun _ => 0) 0 0)))] H := hP
  have hD : va_D A [(h0, .inr (11, [.int 0, .ref h1, .int 0, .int 0, .int (-1), .int 0, .ref h2, .ref h3, .ref h4, .ref h5, .ref h6, .ref h7, .ref h8, .int 0, .int 0, .ref h9, .ref h10, .ref h11, .ref h12, .ref h13, .int 0, .int 0, .ref h14, .ref h15, .ref h16, .int 0, .int 0, .ref h17, .ref h18, .int (-1), .int 0, .ref h19, .int 0, .long 0, .ref h20, .int 0, .int 0, .ref h21, .ref h22, .ref h23, .int 0])), (h4, .inl (cI, 5, .inl (upd (fun _ => 0) 0 0))), (h5, .inl (cI, 5, .inl (upd (fun _ => 0) 0 0)))] := hD
  exact W.vret hx hb hr (fun t ht hW => ⟨⟨(), rfl, trivial, ⟨by rw [ht]; exact hP, hD⟩⟩, hS.F ht⟩) hS.2.2 dX11_open_34
set_option maxHeartbeats 4000000 in
set_option maxRecDepth 100000 in
theorem c_X11_clause_1 (l : Launch) (dC : Nat → ClassId) (dI : Nat → Nat → Nat) (cI cJ : ClassId) (h0 h1 h2 h3 h4 h5 h6 h7 h8 h9 h10 h11 h12 h13 h14 h15 h16 h17 h18 h19 h20 h21 h22 h23 : Nat) (sz : Nat) : Met l yX11_clause (.code yX11_clause cX11_clause 3 none :: wA) ({ frames := 2, cells := 0, slots := 0, locals := 40 }) (zP (dC, dI) [(cI, .int), (cJ, .long)] [.ref h0] sz [(h0, .inr (11, [.int 0, .ref h1, .int 0, .int 0, .int (-1), .int 0, .ref h2, .ref h3, .ref h4, .ref h5, .ref h6, .ref h7, .ref h8, .int 0, .int 0, .ref h9, .ref h10, .ref h11, .ref h12, .ref h13, .int 0, .int 0, .ref h14, .ref h15, .ref h16, .int 0, .int 0, .ref h17, .ref h18, .int (-1), .int 0, .ref h19, .int 0, .long 0, .ref h20, .int 0, .int 0, .ref h21, .ref h22, .ref h23, .int 0])), (h5, .inl (cI, 5, .inl (upd (fun _ => 0) 0 0)))]) (va_Qv (fun (_ : Unit) => True) (fun (_ : Unit) (t : State) => va_P (dC, dI) vwCl [(h5, .inl (cI, 5, .inl (upd (fun _ => 0) 0 0))), (h0, .inr (11, [.int 0, .ref h1, .int 0, .int 2, .int 0, .int 0, .ref h2, .ref h3, .ref h4, .ref h5, .ref h6, .ref h7, .ref h8, .int 0, .int 0, .ref h9, .ref h10, .ref h11, .ref h12, .ref h13, .int 0, .int 0, .ref h14, .ref h15, .ref h16, .int 0, .int 0, .ref h17, .ref h18, .int (-1), .int 0, .ref h19, .int 0, .long 0, .ref h20, .int 0, .int 0, .ref h21, .ref h22, .ref h23, .int 0]))] t.heap ∧ va_D (va_A [(h0, .inr (11, [.int 0, .ref h1, .int 0, .int 0, .int (-1), .int 0, .ref h2, .ref h3, .ref h4, .ref h5, .ref h6, .ref h7, .ref h8, .int 0, .int 0, .ref h9, .ref h10, .ref h11, .ref h12, .ref h13, .int 0, .int 0, .ref h14, .ref h15, .ref h16, .int 0, .int 0, .ref h17, .ref h18, .int (-1), .int 0, .ref h19, .int 0, .long 0, .ref h20, .int 0, .int 0, .ref h21, .ref h22, .ref h23, .int 0])), (h5, .inl (cI, 5, .inl (upd (fun _ => 0) 0 0)))] sz) [(h5, .inl (cI, 5, .inl (upd (fun _ => 0) 0 0))), (h0, .inr (11, [.int 0, .ref h1, .int 0, .int 2, .int 0, .int 0, .ref h2, .ref h3, .ref h4, .ref h5, .ref h6, .ref h7, .ref h8, .int 0, .int 0, .ref h9, .ref h10, .ref h11, .ref h12, .ref h13, .int 0, .int 0, .ref h14, .ref h15, .ref h16, .int 0, .int 0, .ref h17, .ref h18, .int (-1), .int 0, .ref h19, .int 0, .long 0, .ref h20, .int 0, .int 0, .ref h21, .ref h22, .ref h23, .int 0]))]) (va_A [(h0, .inr (11, [.int 0, .ref h1, .int 0, .int 0, .int (-1), .int 0, .ref h2, .ref h3, .ref h4, .ref h5, .ref h6, .ref h7, .ref h8, .int 0, .int 0, .ref h9, .ref h10, .ref h11, .ref h12, .ref h13, .int 0, .int 0, .ref h14, .ref h15, .ref h16, .int 0, .int 0, .ref h17, .ref h18, .int (-1), .int 0, .ref h19, .int 0, .long 0, .ref h20, .int 0, .int 0, .ref h21, .ref h22, .ref h23, .int 0])), (h5, .inl (cI, 5, .inl (upd (fun _ => 0) 0 0)))] sz)) 0 0 (va_A [(h0, .inr (11, [.int 0, .ref h1, .int 0, .int 0, .int (-1), .int 0, .ref h2, .ref h3, .ref h4, .ref h5, .ref h6, .ref h7, .ref h8, .int 0, .int 0, .ref h9, .ref h10, .ref h11, .ref h12, .ref h13, .int 0, .int 0, .ref h14, .ref h15, .ref h16, .int 0, .int 0, .ref h17, .ref h18, .int (-1), .int 0, .ref h19, .int 0, .long 0, .ref h20, .int 0, .int 0, .ref h21, .ref h22, .ref h23, .int 0])), (h5, .inl (cI, 5, .inl (upd (fun _ => 0) 0 0)))] sz) := by
  refine Met.ofW (cc := cX11_clause) (maxL := 3) (ret := none) (by decide) rfl ?_
  intro p e s m args below meth c s₁ B hml hv
  obtain ⟨rfl, hsz, hP, hK, hT⟩ := hv
  have hx := B.exec
  have hb := B.bytes
  have hr := B.returns
  have hts : ∀ w ∈ wA, w.before _ s = true := fun w h => atoms_spec (ws := .code yX11_clause cX11_clause 3 none :: wA) B.pre w (List.mem_cons_of_mem _ h)
  have hown : s.vm.findClass RX11 = some m.cls := findClass_of_methodNamed B.named
  have hlocks := B.notSynchronized
  subst hsz
  have hD := hT.self (sz := s.heap.size)
  generalize hAe : va_A [(h0, .inr (11, [.int 0, .ref h1, .int 0, .int 0, .int (-1), .int 0, .ref h2, .ref h3, .ref h4, .ref h5, .ref h6, .ref h7, .ref h8, .int 0, .int 0, .ref h9, .ref h10, .ref h11, .ref h12, .ref h13, .int 0, .int 0, .ref h14, .ref h15, .ref h16, .int 0, .int 0, .ref h17, .ref h18, .int (-1), .int 0, .ref h19, .int 0, .long 0, .ref h20, .int 0, .int 0, .ref h21, .ref h22, .ref h23, .int 0])), (h5, .inl (cI, 5, .inl (upd (fun _ => 0) 0 0)))] s.heap.size = A at hD ⊢
  have hA : ∀ q : Nat, s.heap.size ≤ q → A q := fun q h => by rw [← hAe]; exact Or.inr h
  have hl := lv_entry ([.ref h0]) (n := 3) (Nat.le_of_ble_eq_true rfl)
  rw [lg_entry_eq]
  generalize (lg_sl ([.ref h0]) ++ List.replicate (3 - (lg_sl ([.ref h0])).length) Slot.unset).toArray = ls at hl ⊢
  have hl : lv_has ls 3 [(0, .ref h0)] := hl
  refine zstart (fun H hH => ?_)
  rw [← hH] at hP
  have hS : va_S A s.heap H [] := by rw [hH]; exact va_S.rf
  refine lv_sipush (v := 140) hx hb dX11_clause_0 (by decide) ?_
  refine lv_aload_n hx hb dX11_clause_3 rfl (lv_at hl 0 rfl) ?_
  refine va_get (D := (dC, dI)) (ci := 11) (v := .int 0) (C := RX11) (T := TX11) (N := 41) hx hb hts iX11 hown hK hP 0 rfl rfl 14 (by decide) (hts _ qw1141) (fun _ h9 => h9) rfl dX11_clause_4 ?_
  refine lv_imul hx hb dX11_clause_7 ?_
  refine lv_topi (fun v_1 ev_1 => ?_)
  obtain rfl : v_1 = 0 := ev_1.trans (by decide)
  refine lv_aload_n hx hb dX11_clause_8 rfl (lv_at hl 0 rfl) ?_
  refine va_get (D := (dC, dI)) (ci := 11) (v := .ref h5) (C := RX11) (T := TX11) (N := 41) hx hb hts iX11 hown hK hP 0 rfl rfl 9 (by decide) (hts _ qw1136) (fun _ h9 => h9) rfl dX11_clause_9 ?_
  refine lv_aload_n hx hb dX11_clause_12 rfl (lv_at hl 0 rfl) ?_
  refine va_get (D := (dC, dI)) (ci := 11) (v := .int 0) (C := RX11) (T := TX11) (N := 41) hx hb hts iX11 hown hK hP 0 rfl rfl 14 (by decide) (hts _ qw1141) (fun _ h9 => h9) rfl dX11_clause_13 ?_
  refine va_iald hx hb hK hP 1 0 rfl rfl (by unfold vp_in; decide) dX11_clause_16 ?_
  refine lv_topi (fun v_2 ev_2 => ?_)
  obtain rfl : v_2 = 0 := ev_2.trans rfl
  refine lv_iadd hx hb dX11_clause_17 ?_
  refine lv_topi (fun v_3 ev_3 => ?_)
  obtain rfl : v_3 = 0 := ev_3.trans (by decide)
  refine lv_istore_n (lv' := [(1, .int 0), (0, .ref h0)]) hx hb dX11_clause_18 rfl hl (by decide) rfl (fun ls hl => ?_)
  refine lv_aload_n hx hb dX11_clause_19 rfl (lv_at hl 1 rfl) ?_
  refine va_get (D := (dC, dI)) (ci := 11) (v := .int (-1)) (C := RX11) (T := TX11) (N := 41) hx hb hts iX11 hown hK hP 0 rfl rfl 4 (by decide) (hts _ qw1131) (fun _ h9 => h9) rfl dX11_clause_20 ?_
  refine lv_iconst (v := (-1)) hx hb dX11_clause_23 (by decide) ?_
  refine lv_icmp_ne (tgt := 40) hx hb dX11_clause_24 (by decide) (fun c => absurd (by decide) c) (fun _ => ?_)
  refine lv_aload_n hx hb dX11_clause_27 rfl (lv_at hl 1 rfl) ?_
  have hPc := hP.sub (ws' := [(h0, .inr (11, [.int 0, .ref h1, .int 0, .int 0, .int (-1), .int 0, .ref h2, .ref h3, .ref h4, .ref h5, .ref h6, .ref h7, .ref h8, .int 0, .int 0, .ref h9, .ref h10, .ref h11, .ref h12, .ref h13, .int 0, .int 0, .ref h14, .ref h15, .ref h16, .int 0, .int 0, .ref h17, .ref h18, .int (-1), .int 0, .ref h19, .int 0, .long 0, .ref h20, .int 0, .int 0, .ref h21, .ref h22, .ref h23, .int 0]))]) [0] rfl
  have hDc := hD.sub (ws' := [(h0, .inr (11, [.int 0, .ref h1, .int 0, .int 0, .int (-1), .int 0, .ref h2, .ref h3, .ref h4, .ref h5, .ref h6, .ref h7, .ref h8, .int 0, .int 0, .ref h9, .ref h10, .ref h11, .ref h12, .ref h13, .int 0, .int 0, .ref h14, .ref h15, .ref h16, .int 0, .int 0, .ref h17, .ref h18, .int (-1), .int 0, .ref h19, .int 0, .long 0, .ref h20, .int 0, .int 0, .ref h21, .ref h22, .ref h23, .int 0]))]) [0] (by decide) rfl
  have hFc := zfr hS hA
  refine va_calli (va_runV (As := []) (rest := []) ⟨hx, hb, hml, hown, hts⟩ (c_X11_look_1 l dC dI cI cJ h0 h1 h2 h3 h4 h5 h6 h7 h8 h9 h10 h11 h12 h13 h14 h15 h16 h17 h18 h19 h20 h21 h22 h23 H.size) (cwV 0 hts (zgV qw1277 qw1279 qw32 qw108 qw1280) rfl rfl rfl hd_X11_look ⟨Nat.le_of_ble_eq_true rfl, Nat.le_of_ble_eq_true rfl⟩) (zPV hPc hK hDc (va_recv hK hP (ci := 11) (q0 := 0) rfl rfl)) rfl rfl hl.1 rfl (lv_room (Nat.le_of_ble_eq_true rfl)) dX11_clause_28 ⟨Nat.le_of_ble_eq_true rfl, Nat.le_of_ble_eq_true rfl⟩) hS (fun q _ h => hFc q h) hFc (fun r_4 u t H locs ht hvm hw hB hz1 hk1 hS => ?_)
  have hP := zkeep hP hk1
  have hw : r_4 = (-1) := hw
  subst hw
  refine lv_bipush (v := 121) hx hb dX11_clause_31 (by decide) ?_
  refine lv_icmp_eq (tgt := 40) hx hb dX11_clause_33 (by decide) (fun c => absurd c (by decide)) (fun _ => ?_)
  refine lv_aload_n hx hb dX11_clause_36 rfl (lv_at hl 1 rfl) ?_
  have hPc := hP.sub (ws' := [(h0, .inr (11, [.int 0, .ref h1, .int 0, .int 0, .int (-1), .int 0, .ref h2, .ref h3, .ref h4, .ref h5, .ref h6, .ref h7, .ref h8, .int 0, .int 0, .ref h9, .ref h10, .ref h11, .ref h12, .ref h13, .int 0, .int 0, .ref h14, .ref h15, .ref h16, .int 0, .int 0, .ref h17, .ref h18, .int (-1), .int 0, .ref h19, .int 0, .long 0, .ref h20, .int 0, .int 0, .ref h21, .ref h22, .ref h23, .int 0]))]) [0] rfl
  have hDc := hD.sub (ws' := [(h0, .inr (11, [.int 0, .ref h1, .int 0, .int 0, .int (-1), .int 0, .ref h2, .ref h3, .ref h4, .ref h5, .ref h6, .ref h7, .ref h8, .int 0, .int 0, .ref h9, .ref h10, .ref h11, .ref h12, .ref h13, .int 0, .int 0, .ref h14, .ref h15, .ref h16, .int 0, .int 0, .ref h17, .ref h18, .int (-1), .int 0, .ref h19, .int 0, .long 0, .ref h20, .int 0, .int 0, .ref h21, .ref h22, .ref h23, .int 0]))]) [0] (by decide) rfl
  have hFc := va_free (wc := [(h0, .inr (11, [.int 0, .ref h1, .int 0, .int 0, .int (-1), .int 0, .ref h2, .ref h3, .ref h4, .ref h5, .ref h6, .ref h7, .ref h8, .int 0, .int 0, .ref h9, .ref h10, .ref h11, .ref h12, .ref h13, .int 0, .int 0, .ref h14, .ref h15, .ref h16, .int 0, .int 0, .ref h17, .ref h18, .int (-1), .int 0, .ref h19, .int 0, .long 0, .ref h20, .int 0, .int 0, .ref h21, .ref h22, .ref h23, .int 0]))]) hD hS hA [0] rfl
  refine va_callv (va_runV (As := []) (rest := []) ⟨hx, hb, hml, hown, hts⟩ (c_X11_bad_1 l dC dI cI cJ h0 h1 h2 h3 h4 h5 h6 h7 h8 h9 h10 h11 h12 h13 h14 h15 h16 h17 h18 h19 h20 h21 h22 h23 H.size) (cwV 0 hts (zgV qw1305 qw1307 qw36 qw108 qw1308) rfl rfl rfl hd_X11_bad ⟨Nat.le_of_ble_eq_true rfl, Nat.le_of_ble_eq_true rfl⟩) (zPV hPc hK hDc (va_recv hK hP (ci := 11) (q0 := 0) rfl rfl)) rfl rfl hl.1 rfl (lv_room (Nat.le_of_ble_eq_true rfl)) dX11_clause_37 ⟨Nat.le_of_ble_eq_true rfl, Nat.le_of_ble_eq_true rfl⟩) hS (fun q _ h => hFc q h) hFc (fun u t H locs ht hvm hw hB hz1 hk1 hS => ?_)
  obtain ⟨hP1, hD1⟩ := hB
  rw [ht] at hP1
  obtain ⟨hP, hD⟩ := va_join (wr := [(h5, .inl (cI, 5, .inl (upd (fun _ => 0) 0 0)))]) (w1 := [(h0, .inr (11, [.int 0, .ref h1, .int 0, .int 0, .int 0, .int 0, .ref h2, .ref h3, .ref h4, .ref h5, .ref h6, .ref h7, .ref h8, .int 0, .int 0, .ref h9, .ref h10, .ref h11, .ref h12, .ref h13, .int 0, .int 0, .ref h14, .ref h15, .ref h16, .int 0, .int 0, .ref h17, .ref h18, .int (-1), .int 0, .ref h19, .int 0, .long 0, .ref h20, .int 0, .int 0, .ref h21, .ref h22, .ref h23, .int 0]))]) hP hD [0] [1] rfl rfl (by decide) (by decide) hk1 hFc hP1 hD1
  have hP : va_P (dC, dI) vwCl [(h5, .inl (cI, 5, .inl (upd (fun _ => 0) 0 0))), (h0, .inr (11, [.int 0, .ref h1, .int 0, .int 0, .int 0, .int 0, .ref h2, .ref h3, .ref h4, .ref h5, .ref h6, .ref h7, .ref h8, .int 0, .int 0, .ref h9, .ref h10, .ref h11, .ref h12, .ref h13, .int 0, .int 0, .ref h14, .ref h15, .ref h16, .int 0, .int 0, .ref h17, .ref h18, .int (-1), .int 0, .ref h19, .int 0, .long 0, .ref h20, .int 0, .int 0, .ref h21, .ref h22, .ref h23, .int 0]))] H := hP
  have hD : va_D A [(h5, .inl (cI, 5, .inl (upd (fun _ => 0) 0 0))), (h0, .inr (11, [.int 0, .ref h1, .int 0, .int 0, .int 0, .int 0, .ref h2, .ref h3, .ref h4, .ref h5, .ref h6, .ref h7, .ref h8, .int 0, .int 0, .ref h9, .ref h10, .ref h11, .ref h12, .ref h13, .int 0, .int 0, .ref h14, .ref h15, .ref h16, .int 0, .int 0, .ref h17, .ref h18, .int (-1), .int 0, .ref h19, .int 0, .long 0, .ref h20, .int 0, .int 0, .ref h21, .ref h22, .ref h23, .int 0]))] := hD
  refine lv_aload_n hx hb dX11_clause_40 rfl (lv_at hl 1 rfl) ?_
  refine lv_dup hx hb dX11_clause_41 rfl ?_
  refine va_get (D := (dC, dI)) (ci := 11) (v := .int 0) (C := RX11) (T := TX11) (N := 41) hx hb hts iX11 hown hK hP 1 rfl rfl 3 (by decide) (hts _ qw1130) (fun _ h9 => h9) rfl dX11_clause_42 ?_
  refine lv_iconst (v := 1) hx hb dX11_clause_45 (by decide) ?_
  refine lv_iadd hx hb dX11_clause_46 ?_
  refine lv_topi (fun v_6 ev_6 => ?_)
  obtain rfl : v_6 = 1 := ev_6.trans (by decide)
  refine va_put (D := (dC, dI)) (ci := 11) (v := .int 1) (ty := .int) (C := RX11) (T := TX11) (N := 41) hx hb hts iX11 tyX11 tyX11_ok nmX11 hown hK hP hD hS 1 rfl rfl 3 (by decide) (hts _ qw1130) (fun _ h9 => h9) rfl (by decide +kernel) rfl rfl (Nat.le_of_ble_eq_true rfl) dX11_clause_47 (fun H locs hP hD hS => ?_)
  have hP : va_P (dC, dI) vwCl [(h5, .inl (cI, 5, .inl (upd (fun _ => 0) 0 0))), (h0, .inr (11, [.int 0, .ref h1, .int 0, .int 1, .int 0, .int 0, .ref h2, .ref h3, .ref h4, .ref h5, .ref h6, .ref h7, .ref h8, .int 0, .int 0, .ref h9, .ref h10, .ref h11, .ref h12, .ref h13, .int 0, .int 0, .ref h14, .ref h15, .ref h16, .int 0, .int 0, .ref h17, .ref h18, .int (-1), .int 0, .ref h19, .int 0, .long 0, .ref h20, .int 0, .int 0, .ref h21, .ref h22, .ref h23, .int 0]))] H := hP
  have hD : va_D A [(h5, .inl (cI, 5, .inl (upd (fun _ => 0) 0 0))), (h0, .inr (11, [.int 0, .ref h1, .int 0, .int 1, .int 0, .int 0, .ref h2, .ref h3, .ref h4, .ref h5, .ref h6, .ref h7, .ref h8, .int 0, .int 0, .ref h9, .ref h10, .ref h11, .ref h12, .ref h13, .int 0, .int 0, .ref h14, .ref h15, .ref h16, .int 0, .int 0, .ref h17, .ref h18, .int (-1), .int 0, .ref h19, .int 0, .long 0, .ref h20, .int 0, .int 0, .ref h21, .ref h22, .ref h23, .int 0]))] := hD
  refine lv_aload_n hx hb dX11_clause_50 rfl (lv_at hl 1 rfl) ?_
  refine va_get (D := (dC, dI)) (ci := 11) (v := .int 0) (C := RX11) (T := TX11) (N := 41) hx hb hts iX11 hown hK hP 1 rfl rfl 4 (by decide) (hts _ qw1131) (fun _ h9 => h9) rfl dX11_clause_51 ?_
  refine lv_iconst (v := (-1)) hx hb dX11_clause_54 (by decide) ?_
  refine lv_icmp_ne (tgt := 71) hx hb dX11_clause_55 (by decide) (fun _ => ?_) (fun c => absurd c (by decide))
  refine lv_aload_n hx hb dX11_clause_71 rfl (lv_at hl 1 rfl) ?_
  refine lv_dup hx hb dX11_clause_72 rfl ?_
  refine va_get (D := (dC, dI)) (ci := 11) (v := .int 1) (C := RX11) (T := TX11) (N := 41) hx hb hts iX11 hown hK hP 1 rfl rfl 3 (by decide) (hts _ qw1130) (fun _ h9 => h9) rfl dX11_clause_73 ?_
  refine lv_iconst (v := 1) hx hb dX11_clause_76 (by decide) ?_
  refine lv_iadd hx hb dX11_clause_77 ?_
  refine lv_topi (fun v_7 ev_7 => ?_)
  obtain rfl : v_7 = 2 := ev_7.trans (by decide)
  refine va_put (D := (dC, dI)) (ci := 11) (v := .int 2) (ty := .int) (C := RX11) (T := TX11) (N := 41) hx hb hts iX11 tyX11 tyX11_ok nmX11 hown hK hP hD hS 1 rfl rfl 3 (by decide) (hts _ qw1130) (fun _ h9 => h9) rfl (by decide +kernel) rfl rfl (Nat.le_of_ble_eq_true rfl) dX11_clause_78 (fun H locs hP hD hS => ?_)
  have hP : va_P (dC, dI) vwCl [(h5, .inl (cI, 5, .inl (upd (fun _ => 0) 0 0))), (h0, .inr (11, [.int 0, .ref h1, .int 0, .int 2, .int 0, .int 0, .ref h2, .ref h3, .ref h4, .ref h5, .ref h6, .ref h7, .ref h8, .int 0, .int 0, .ref h9, .ref h10, .ref h11, .ref h12, .ref h13, .int 0, .int 0, .ref h14, .ref h15, .ref h16, .int 0, .int 0, .ref h17, .ref h18, .int (-1), .int 0, .ref h19, .int 0, .long 0, .ref h20, .int 0, .int 0, .ref h21, .ref h22, .ref h23, .int 0]))] H := hP
  have hD : va_D A [(h5, .inl (cI, 5, .inl (upd (fun _ => 0) 0 0))), (h0, .inr (11, [.int 0, .ref h1, .int 0, .int 2, .int 0, .int 0, .ref h2, .ref h3, .ref h4, .ref h5, .ref h6, .ref h7, .ref h8, .int 0, .int 0, .ref h9, .ref h10, .ref h11, .ref h12, .ref h13, .int 0, .int 0, .ref h14, .ref h15, .ref h16, .int 0, .int 0, .ref h17, .ref h18, .int (-1), .int 0, .ref h19, .int 0, .long 0, .ref h20, .int 0, .int 0, .ref h21, .ref h22, .ref h23, .int 0]))] := hD
  refine lv_aload_n hx hb dX11_clause_81 rfl (lv_at hl 1 rfl) ?_
  refine va_get (D := (dC, dI)) (ci := 11) (v := .int 0) (C := RX11) (T := TX11) (N := 41) hx hb hts iX11 hown hK hP 1 rfl rfl 4 (by decide) (hts _ qw1131) (fun _ h9 => h9) rfl dX11_clause_82 ?_
  refine lv_iconst (v := (-1)) hx hb dX11_clause_85 (by decide) ?_
  refine lv_icmp_eq (tgt := 90) hx hb dX11_clause_86 (by decide) (fun c => absurd c (by decide)) (fun _ => ?_)
  exact W.vret hx hb hr (fun t ht hW => ⟨⟨(), rfl, trivial, ⟨by rw [ht]; exact hP, hD⟩⟩, hS.F ht⟩) hS.2.2 dX11_clause_89
set_option maxHeartbeats 4000000 in
set_option maxRecDepth 100000 in
theorem c_X11_atEnd_1 (l : Launch) (dC : Nat → ClassId) (dI : Nat → Nat → Nat) (cI cJ : ClassId) (h0 h1 h2 h3 h4 h5 h6 h7 h8 h9 h10 h11 h12 h13 h14 h15 h16 h17 h18 h19 h20 h21 h22 h23 : Nat) (sz : Nat) : Met l yX11_atEnd (.code yX11_atEnd cX11_atEnd 1 (some .int) :: wA) ({ frames := 0, cells := 0, slots := 0, locals := 0 }) (zP (dC, dI) [(cI, .int), (cJ, .long)] [.ref h0] sz [(h0, .inr (11, [.int 0, .ref h1, .int 0, .int 2, .int 0, .int 0, .ref h2, .ref h3, .ref h4, .ref h5, .ref h6, .ref h7, .ref h8, .int 0, .int 0, .ref h9, .ref h10, .ref h11, .ref h12, .ref h13, .int 0, .int 0, .ref h14, .ref h15, .ref h16, .int 0, .int 0, .ref h17, .ref h18, .int (-1), .int 0, .ref h19, .int 0, .long 0, .ref h20, .int 0, .int 0, .ref h21, .ref h22, .ref h23, .int 0]))]) (va_Qi (fun (r : Int32) (_ : Unit) => r = 0) (fun (_ : Unit) (_ : State) => True) (va_A [] sz)) 0 0 (va_A [] sz) := by
  refine Met.ofW (cc := cX11_atEnd) (maxL := 1) (ret := (some .int)) (by decide) rfl ?_
  intro p e s m args below meth c s₁ B hml hv
  obtain ⟨rfl, hsz, hP, hK, hT⟩ := hv
  have hx := B.exec
  have hb := B.bytes
  have hr := B.returns
  have hts : ∀ w ∈ wA, w.before _ s = true := fun w h => atoms_spec (ws := .code yX11_atEnd cX11_atEnd 1 (some .int) :: wA) B.pre w (List.mem_cons_of_mem _ h)
  have hown : s.vm.findClass RX11 = some m.cls := findClass_of_methodNamed B.named
  have hlocks := B.notSynchronized
  subst hsz
  have hD : va_D (va_A [] s.heap.size) [] := zD0
  generalize hAe : va_A [] s.heap.size = A at hD ⊢
  have hA : ∀ q : Nat, s.heap.size ≤ q → A q := fun q h => by rw [← hAe]; exact Or.inr h
  have hl := lv_entry ([.ref h0]) (n := 1) (Nat.le_of_ble_eq_true rfl)
  rw [lg_entry_eq]
  generalize (lg_sl ([.ref h0]) ++ List.replicate (1 - (lg_sl ([.ref h0])).length) Slot.unset).toArray = ls at hl ⊢
  have hl : lv_has ls 1 [(0, .ref h0)] := hl
  refine zstart (fun H hH => ?_)
  rw [← hH] at hP
  have hS : va_S A s.heap H [] := by rw [hH]; exact va_S.rf
  refine lv_aload_n hx hb dX11_atEnd_0 rfl (lv_at hl 0 rfl) ?_
  refine va_get (D := (dC, dI)) (ci := 11) (v := .int 0) (C := RX11) (T := TX11) (N := 41) hx hb hts iX11 hown hK hP 0 rfl rfl 4 (by decide) (hts _ qw1131) (fun _ h9 => h9) rfl dX11_atEnd_1 ?_
  refine lv_iconst (v := (-1)) hx hb dX11_atEnd_4 (by decide) ?_
  refine lv_icmp_ne (tgt := 20) hx hb dX11_atEnd_5 (by decide) (fun _ => ?_) (fun c => absurd c (by decide))
  refine lv_aload_n hx hb dX11_atEnd_20 rfl (lv_at hl 0 rfl) ?_
  refine va_get (D := (dC, dI)) (ci := 11) (v := .int 0) (C := RX11) (T := TX11) (N := 41) hx hb hts iX11 hown hK hP 0 rfl rfl 4 (by decide) (hts _ qw1131) (fun _ h9 => h9) rfl dX11_atEnd_21 ?_
  exact W.iret (v := 0) hx hb hr (fun t ht hW => ⟨⟨0, (), rfl, rfl, trivial⟩, hS.F ht⟩) hS.2.2 dX11_atEnd_24
set_option maxHeartbeats 4000000 in
set_option maxRecDepth 100000 in
theorem c_X11_readLaw_1 (l : Launch) (dC : Nat → ClassId) (dI : Nat → Nat → Nat) (cI cJ : ClassId) (h0 h1 h2 h3 h4 h5 h6 h7 h8 h9 h10 h11 h12 h13 h14 h15 h16 h17 h18 h19 h20 h21 h22 h23 : Nat) (sz : Nat) : Met l yX11_readLaw (.code yX11_readLaw cX11_readLaw 2 (some .int) :: wA) ({ frames := 3, cells := 0, slots := 0, locals := 62 }) (zP (dC, dI) [(cI, .int), (cJ, .long)] [.ref h0, .int 0] sz [(h0, .inr (11, [.int 0, .ref h1, .int 0, .int 0, .int 0, .int 0, .ref h2, .ref h3, .ref h4, .ref h5, .ref h6, .ref h7, .ref h8, .int 0, .int 0, .ref h9, .ref h10, .ref h11, .ref h12, .ref h13, .int 0, .int 0, .ref h14, .ref h15, .ref h16, .int 0, .int 0, .ref h17, .ref h18, .int (-1), .int 0, .ref h19, .int 0, .long 0, .ref h20, .int 0, .int 0, .ref h21, .ref h22, .ref h23, .int 0])), (h4, .inl (cI, 5, .inl (fun _ => 0))), (h5, .inl (cI, 5, .inl (fun _ => 0)))]) (va_Qi (fun (r : Int32) (_ : Unit) => r = 0) (fun (_ : Unit) (t : State) => va_P (dC, dI) vwCl [(h4, .inl (cI, 5, .inl (upd (fun _ => 0) 0 0))), (h5, .inl (cI, 5, .inl (upd (fun _ => 0) 0 0))), (h0, .inr (11, [.int 0, .ref h1, .int 0, .int 2, .int 0, .int 0, .ref h2, .ref h3, .ref h4, .ref h5, .ref h6, .ref h7, .ref h8, .int 0, .int 0, .ref h9, .ref h10, .ref h11, .ref h12, .ref h13, .int 0, .int 0, .ref h14, .ref h15, .ref h16, .int 0, .int 0, .ref h17, .ref h18, .int (-1), .int 0, .ref h19, .int 0, .long 0, .ref h20, .int 0, .int 0, .ref h21, .ref h22, .ref h23, .int 0]))] t.heap ∧ va_D (va_A [(h0, .inr (11, [.int 0, .ref h1, .int 0, .int 0, .int 0, .int 0, .ref h2, .ref h3, .ref h4, .ref h5, .ref h6, .ref h7, .ref h8, .int 0, .int 0, .ref h9, .ref h10, .ref h11, .ref h12, .ref h13, .int 0, .int 0, .ref h14, .ref h15, .ref h16, .int 0, .int 0, .ref h17, .ref h18, .int (-1), .int 0, .ref h19, .int 0, .long 0, .ref h20, .int 0, .int 0, .ref h21, .ref h22, .ref h23, .int 0])), (h4, .inl (cI, 5, .inl (fun _ => 0))), (h5, .inl (cI, 5, .inl (fun _ => 0)))] sz) [(h4, .inl (cI, 5, .inl (upd (fun _ => 0) 0 0))), (h5, .inl (cI, 5, .inl (upd (fun _ => 0) 0 0))), (h0, .inr (11, [.int 0, .ref h1, .int 0, .int 2, .int 0, .int 0, .ref h2, .ref h3, .ref h4, .ref h5, .ref h6, .ref h7, .ref h8, .int 0, .int 0, .ref h9, .ref h10, .ref h11, .ref h12, .ref h13, .int 0, .int 0, .ref h14, .ref h15, .ref h16, .int 0, .int 0, .ref h17, .ref h18, .int (-1), .int 0, .ref h19, .int 0, .long 0, .ref h20, .int 0, .int 0, .ref h21, .ref h22, .ref h23, .int 0]))]) (va_A [(h0, .inr (11, [.int 0, .ref h1, .int 0, .int 0, .int 0, .int 0, .ref h2, .ref h3, .ref h4, .ref h5, .ref h6, .ref h7, .ref h8, .int 0, .int 0, .ref h9, .ref h10, .ref h11, .ref h12, .ref h13, .int 0, .int 0, .ref h14, .ref h15, .ref h16, .int 0, .int 0, .ref h17, .ref h18, .int (-1), .int 0, .ref h19, .int 0, .long 0, .ref h20, .int 0, .int 0, .ref h21, .ref h22, .ref h23, .int 0])), (h4, .inl (cI, 5, .inl (fun _ => 0))), (h5, .inl (cI, 5, .inl (fun _ => 0)))] sz)) 0 0 (va_A [(h0, .inr (11, [.int 0, .ref h1, .int 0, .int 0, .int 0, .int 0, .ref h2, .ref h3, .ref h4, .ref h5, .ref h6, .ref h7, .ref h8, .int 0, .int 0, .ref h9, .ref h10, .ref h11, .ref h12, .ref h13, .int 0, .int 0, .ref h14, .ref h15, .ref h16, .int 0, .int 0, .ref h17, .ref h18, .int (-1), .int 0, .ref h19, .int 0, .long 0, .ref h20, .int 0, .int 0, .ref h21, .ref h22, .ref h23, .int 0])), (h4, .inl (cI, 5, .inl (fun _ => 0))), (h5, .inl (cI, 5, .inl (fun _ => 0)))] sz) := by
  refine Met.ofW (cc := cX11_readLaw) (maxL := 2) (ret := (some .int)) (by decide) rfl ?_
  intro p e s m args below meth c s₁ B hml hv
  obtain ⟨rfl, hsz, hP, hK, hT⟩ := hv
  have hx := B.exec
  have hb := B.bytes
  have hr := B.returns
  have hts : ∀ w ∈ wA, w.before _ s = true := fun w h => atoms_spec (ws := .code yX11_readLaw cX11_readLaw 2 (some .int) :: wA) B.pre w (List.mem_cons_of_mem _ h)
  have hown : s.vm.findClass RX11 = some m.cls := findClass_of_methodNamed B.named
  have hlocks := B.notSynchronized
  subst hsz
  have hD := hT.self (sz := s.heap.size)
  generalize hAe : va_A [(h0, .inr (11, [.int 0, .ref h1, .int 0, .int 0, .int 0, .int 0, .ref h2, .ref h3, .ref h4, .ref h5, .ref h6, .ref h7, .ref h8, .int 0, .int 0, .ref h9, .ref h10, .ref h11, .ref h12, .ref h13, .int 0, .int 0, .ref h14, .ref h15, .ref h16, .int 0, .int 0, .ref h17, .ref h18, .int (-1), .int 0, .ref h19, .int 0, .long 0, .ref h20, .int 0, .int 0, .ref h21, .ref h22, .ref h23, .int 0])), (h4, .inl (cI, 5, .inl (fun _ => 0))), (h5, .inl (cI, 5, .inl (fun _ => 0)))] s.heap.size = A at hD ⊢
  have hA : ∀ q : Nat, s.heap.size ≤ q → A q := fun q h => by rw [← hAe]; exact Or.inr h
  have hl := lv_entry ([.ref h0, .int 0]) (n := 2) (Nat.le_of_ble_eq_true rfl)
  rw [lg_entry_eq]
  generalize (lg_sl ([.ref h0, .int 0]) ++ List.replicate (2 - (lg_sl ([.ref h0, .int 0])).length) Slot.unset).toArray = ls at hl ⊢
  have hl : lv_has ls 2 [(0, .ref h0), (1, .int 0)] := hl
  refine zstart (fun H hH => ?_)
  rw [← hH] at hP
  have hS : va_S A s.heap H [] := by rw [hH]; exact va_S.rf
  refine lv_aload_n hx hb dX11_readLaw_0 rfl (lv_at hl 0 rfl) ?_
  refine lv_iload_n hx hb dX11_readLaw_1 rfl (lv_at hl 1 rfl) ?_
  have hPc := hP.sub (ws' := [(h0, .inr (11, [.int 0, .ref h1, .int 0, .int 0, .int 0, .int 0, .ref h2, .ref h3, .ref h4, .ref h5, .ref h6, .ref h7, .ref h8, .int 0, .int 0, .ref h9, .ref h10, .ref h11, .ref h12, .ref h13, .int 0, .int 0, .ref h14, .ref h15, .ref h16, .int 0, .int 0, .ref h17, .ref h18, .int (-1), .int 0, .ref h19, .int 0, .long 0, .ref h20, .int 0, .int 0, .ref h21, .ref h22, .ref h23, .int 0])), (h4, .inl (cI, 5, .inl (fun _ => 0))), (h5, .inl (cI, 5, .inl (fun _ => 0)))]) [0, 1, 2] rfl
  have hDc := hD.sub (ws' := [(h0, .inr (11, [.int 0, .ref h1, .int 0, .int 0, .int 0, .int 0, .ref h2, .ref h3, .ref h4, .ref h5, .ref h6, .ref h7, .ref h8, .int 0, .int 0, .ref h9, .ref h10, .ref h11, .ref h12, .ref h13, .int 0, .int 0, .ref h14, .ref h15, .ref h16, .int 0, .int 0, .ref h17, .ref h18, .int (-1), .int 0, .ref h19, .int 0, .long 0, .ref h20, .int 0, .int 0, .ref h21, .ref h22, .ref h23, .int 0])), (h4, .inl (cI, 5, .inl (fun _ => 0))), (h5, .inl (cI, 5, .inl (fun _ => 0)))]) [0, 1, 2] (by decide) rfl
  have hFc := va_free (wc := [(h0, .inr (11, [.int 0, .ref h1, .int 0, .int 0, .int 0, .int 0, .ref h2, .ref h3, .ref h4, .ref h5, .ref h6, .ref h7, .ref h8, .int 0, .int 0, .ref h9, .ref h10, .ref h11, .ref h12, .ref h13, .int 0, .int 0, .ref h14, .ref h15, .ref h16, .int 0, .int 0, .ref h17, .ref h18, .int (-1), .int 0, .ref h19, .int 0, .long 0, .ref h20, .int 0, .int 0, .ref h21, .ref h22, .ref h23, .int 0])), (h4, .inl (cI, 5, .inl (fun _ => 0))), (h5, .inl (cI, 5, .inl (fun _ => 0)))]) hD hS hA [0, 1, 2] rfl
  refine va_callv (va_runV (As := [.int 0]) (rest := []) ⟨hx, hb, hml, hown, hts⟩ (c_X11_open_1 l dC dI cI cJ h0 h1 h2 h3 h4 h5 h6 h7 h8 h9 h10 h11 h12 h13 h14 h15 h16 h17 h18 h19 h20 h21 h22 h23 H.size) (cwV 1 hts (zgV qw1316 qw1318 qw38 qw108 qw1319) rfl rfl rfl hd_X11_open ⟨Nat.le_of_ble_eq_true rfl, Nat.le_of_ble_eq_true rfl⟩) (zPV hPc hK hDc (va_recv hK hP (ci := 11) (q0 := 0) rfl rfl)) rfl rfl hl.1 rfl (lv_room (Nat.le_of_ble_eq_true rfl)) dX11_readLaw_2 ⟨Nat.le_of_ble_eq_true rfl, Nat.le_of_ble_eq_true rfl⟩) hS (fun q _ h => hFc q h) hFc (fun u t H locs ht hvm hw hB hz1 hk1 hS => ?_)
  obtain ⟨hP1, hD1⟩ := hB
  rw [ht] at hP1
  obtain ⟨hP, hD⟩ := va_join (wr := []) (w1 := [(h0, .inr (11, [.int 0, .ref h1, .int 0, .int 0, .int (-1), .int 0, .ref h2, .ref h3, .ref h4, .ref h5, .ref h6, .ref h7, .ref h8, .int 0, .int 0, .ref h9, .ref h10, .ref h11, .ref h12, .ref h13, .int 0, .int 0, .ref h14, .ref h15, .ref h16, .int 0, .int 0, .ref h17, .ref h18, .int (-1), .int 0, .ref h19, .int 0, .long 0, .ref h20, .int 0, .int 0, .ref h21, .ref h22, .ref h23, .int 0])), (h4, .inl (cI, 5, .inl (upd (fun _ => 0) 0 0))), (h5, .inl (cI, 5, .inl (upd (fun _ => 0) 0 0)))]) hP hD [0, 1, 2] [] rfl rfl (by decide) (by decide) hk1 hFc hP1 hD1
  have hP : va_P (dC, dI) vwCl [(h0, .inr (11, [.int 0, .ref h1, .int 0, .int 0, .int (-1), .int 0, .ref h2, .ref h3, .ref h4, .ref h5, .ref h6, .ref h7, .ref h8, .int 0, .int 0, .ref h9, .ref h10, .ref h11, .ref h12, .ref h13, .int 0, .int 0, .ref h14, .ref h15, .ref h16, .int 0, .int 0, .ref h17, .ref h18, .int (-1), .int 0, .ref h19, .int 0, .long 0, .ref h20, .int 0, .int 0, .ref h21, .ref h22, .ref h23, .int 0])), (h4, .inl (cI, 5, .inl (upd (fun _ => 0) 0 0))), (h5, .inl (cI, 5, .inl (upd (fun _ => 0) 0 0)))] H := hP
  have hD : va_D A [(h0, .inr (11, [.int 0, .ref h1, .int 0, .int 0, .int (-1), .int 0, .ref h2, .ref h3, .ref h4, .ref h5, .ref h6, .ref h7, .ref h8, .int 0, .int 0, .ref h9, .ref h10, .ref h11, .ref h12, .ref h13, .int 0, .int 0, .ref h14, .ref h15, .ref h16, .int 0, .int 0, .ref h17, .ref h18, .int (-1), .int 0, .ref h19, .int 0, .long 0, .ref h20, .int 0, .int 0, .ref h21, .ref h22, .ref h23, .int 0])), (h4, .inl (cI, 5, .inl (upd (fun _ => 0) 0 0))), (h5, .inl (cI, 5, .inl (upd (fun _ => 0) 0 0)))] := hD
  refine lv_aload_n hx hb dX11_readLaw_5 rfl (lv_at hl 0 rfl) ?_
  have hPc := hP.sub (ws' := [(h0, .inr (11, [.int 0, .ref h1, .int 0, .int 0, .int (-1), .int 0, .ref h2, .ref h3, .ref h4, .ref h5, .ref h6, .ref h7, .ref h8, .int 0, .int 0, .ref h9, .ref h10, .ref h11, .ref h12, .ref h13, .int 0, .int 0, .ref h14, .ref h15, .ref h16, .int 0, .int 0, .ref h17, .ref h18, .int (-1), .int 0, .ref h19, .int 0, .long 0, .ref h20, .int 0, .int 0, .ref h21, .ref h22, .ref h23, .int 0])), (h5, .inl (cI, 5, .inl (upd (fun _ => 0) 0 0)))]) [0, 2] rfl
  have hDc := hD.sub (ws' := [(h0, .inr (11, [.int 0, .ref h1, .int 0, .int 0, .int (-1), .int 0, .ref h2, .ref h3, .ref h4, .ref h5, .ref h6, .ref h7, .ref h8, .int 0, .int 0, .ref h9, .ref h10, .ref h11, .ref h12, .ref h13, .int 0, .int 0, .ref h14, .ref h15, .ref h16, .int 0, .int 0, .ref h17, .ref h18, .int (-1), .int 0, .ref h19, .int 0, .long 0, .ref h20, .int 0, .int 0, .ref h21, .ref h22, .ref h23, .int 0])), (h5, .inl (cI, 5, .inl (upd (fun _ => 0) 0 0)))]) [0, 2] (by decide) rfl
  have hFc := va_free (wc := [(h0, .inr (11, [.int 0, .ref h1, .int 0, .int 0, .int (-1), .int 0, .ref h2, .ref h3, .ref h4, .ref h5, .ref h6, .ref h7, .ref h8, .int 0, .int 0, .ref h9, .ref h10, .ref h11, .ref h12, .ref h13, .int 0, .int 0, .ref h14, .ref h15, .ref h16, .int 0, .int 0, .ref h17, .ref h18, .int (-1), .int 0, .ref h19, .int 0, .long 0, .ref h20, .int 0, .int 0, .ref h21, .ref h22, .ref h23, .int 0])), (h5, .inl (cI, 5, .inl (upd (fun _ => 0) 0 0)))]) hD hS hA [0, 2] rfl
  refine va_callv (va_runV (As := []) (rest := []) ⟨hx, hb, hml, hown, hts⟩ (c_X11_clause_1 l dC dI cI cJ h0 h1 h2 h3 h4 h5 h6 h7 h8 h9 h10 h11 h12 h13 h14 h15 h16 h17 h18 h19 h20 h21 h22 h23 H.size) (cwV 0 hts (zgV qw1320 qw1322 qw39 qw108 qw1323) rfl rfl rfl hd_X11_clause ⟨Nat.le_of_ble_eq_true rfl, Nat.le_of_ble_eq_true rfl⟩) (zPV hPc hK hDc (va_recv hK hP (ci := 11) (q0 := 0) rfl rfl)) rfl rfl hl.1 rfl (lv_room (Nat.le_of_ble_eq_true rfl)) dX11_readLaw_6 ⟨Nat.le_of_ble_eq_true rfl, Nat.le_of_ble_eq_true rfl⟩) hS (fun q _ h => hFc q h) hFc (fun u t H locs ht hvm hw hB hz1 hk1 hS => ?_)
  obtain ⟨hP1, hD1⟩ := hB
  rw [ht] at hP1
  obtain ⟨hP, hD⟩ := va_join (wr := [(h4, .inl (cI, 5, .inl (upd (fun _ => 0) 0 0)))]) (w1 := [(h5, .inl (cI, 5, .inl (upd (fun _ => 0) 0 0))), (h0, .inr (11, [.int 0, .ref h1, .int 0, .int 2, .int 0, .int 0, .ref h2, .ref h3, .ref h4, .ref h5, .ref h6, .ref h7, .ref h8, .int 0, .int 0, .ref h9, .ref h10, .ref h11, .ref h12, .ref h13, .int 0, .int 0, .ref h14, .ref h15, .ref h16, .int 0, .int 0, .ref h17, .ref h18, .int (-1), .int 0, .ref h19, .int 0, .long 0, .ref h20, .int 0, .int 0, .ref h21, .ref h22, .ref h23, .int 0]))]) hP hD [0, 2] [1] rfl rfl (by decide) (by decide) hk1 hFc hP1 hD1
  have hP : va_P (dC, dI) vwCl [(h4, .inl (cI, 5, .inl (upd (fun _ => 0) 0 0))), (h5, .inl (cI, 5, .inl (upd (fun _ => 0) 0 0))), (h0, .inr (11, [.int 0, .ref h1, .int 0, .int 2, .int 0, .int 0, .ref h2, .ref h3, .ref h4, .ref h5, .ref h6, .ref h7, .ref h8, .int 0, .int 0, .ref h9, .ref h10, .ref h11, .ref h12, .ref h13, .int 0, .int 0, .ref h14, .ref h15, .ref h16, .int 0, .int 0, .ref h17, .ref h18, .int (-1), .int 0, .ref h19, .int 0, .long 0, .ref h20, .int 0, .int 0, .ref h21, .ref h22, .ref h23, .int 0]))] H := hP
  have hD : va_D A [(h4, .inl (cI, 5, .inl (upd (fun _ => 0) 0 0))), (h5, .inl (cI, 5, .inl (upd (fun _ => 0) 0 0))), (h0, .inr (11, [.int 0, .ref h1, .int 0, .int 2, .int 0, .int 0, .ref h2, .ref h3, .ref h4, .ref h5, .ref h6, .ref h7, .ref h8, .int 0, .int 0, .ref h9, .ref h10, .ref h11, .ref h12, .ref h13, .int 0, .int 0, .ref h14, .ref h15, .ref h16, .int 0, .int 0, .ref h17, .ref h18, .int (-1), .int 0, .ref h19, .int 0, .long 0, .ref h20, .int 0, .int 0, .ref h21, .ref h22, .ref h23, .int 0]))] := hD
  refine lv_aload_n hx hb dX11_readLaw_9 rfl (lv_at hl 0 rfl) ?_
  refine va_get (D := (dC, dI)) (ci := 11) (v := .int 0) (C := RX11) (T := TX11) (N := 41) hx hb hts iX11 hown hK hP 2 rfl rfl 4 (by decide) (hts _ qw1131) (fun _ h9 => h9) rfl dX11_readLaw_10 ?_
  refine lv_iconst (v := (-1)) hx hb dX11_readLaw_13 (by decide) ?_
  refine lv_icmp_ne (tgt := 43) hx hb dX11_readLaw_14 (by decide) (fun _ => ?_) (fun c => absurd c (by decide))
  refine lv_aload_n hx hb dX11_readLaw_43 rfl (lv_at hl 0 rfl) ?_
  have hPc := hP.sub (ws' := [(h0, .inr (11, [.int 0, .ref h1, .int 0, .int 2, .int 0, .int 0, .ref h2, .ref h3, .ref h4, .ref h5, .ref h6, .ref h7, .ref h8, .int 0, .int 0, .ref h9, .ref h10, .ref h11, .ref h12, .ref h13, .int 0, .int 0, .ref h14, .ref h15, .ref h16, .int 0, .int 0, .ref h17, .ref h18, .int (-1), .int 0, .ref h19, .int 0, .long 0, .ref h20, .int 0, .int 0, .ref h21, .ref h22, .ref h23, .int 0]))]) [2] rfl
  have hDc := hD.sub (ws' := [(h0, .inr (11, [.int 0, .ref h1, .int 0, .int 2, .int 0, .int 0, .ref h2, .ref h3, .ref h4, .ref h5, .ref h6, .ref h7, .ref h8, .int 0, .int 0, .ref h9, .ref h10, .ref h11, .ref h12, .ref h13, .int 0, .int 0, .ref h14, .ref h15, .ref h16, .int 0, .int 0, .ref h17, .ref h18, .int (-1), .int 0, .ref h19, .int 0, .long 0, .ref h20, .int 0, .int 0, .ref h21, .ref h22, .ref h23, .int 0]))]) [2] (by decide) rfl
  have hFc := zfr hS hA
  refine va_calli (va_runV (As := []) (rest := []) ⟨hx, hb, hml, hown, hts⟩ (c_X11_atEnd_1 l dC dI cI cJ h0 h1 h2 h3 h4 h5 h6 h7 h8 h9 h10 h11 h12 h13 h14 h15 h16 h17 h18 h19 h20 h21 h22 h23 H.size) (cwV 0 hts (zgV qw1378 qw1380 qw52 qw108 qw1381) rfl rfl rfl hd_X11_atEnd ⟨Nat.le_of_ble_eq_true rfl, Nat.le_of_ble_eq_true rfl⟩) (zPV hPc hK hDc (va_recv hK hP (ci := 11) (q0 := 2) rfl rfl)) rfl rfl hl.1 rfl (lv_room (Nat.le_of_ble_eq_true rfl)) dX11_readLaw_44 ⟨Nat.le_of_ble_eq_true rfl, Nat.le_of_ble_eq_true rfl⟩) hS (fun q _ h => hFc q h) hFc (fun r_3 u t H locs ht hvm hw hB hz1 hk1 hS => ?_)
  have hP := zkeep hP hk1
  have hw : r_3 = 0 := hw
  subst hw
  exact W.iret (v := 0) hx hb hr (fun t ht hW => ⟨⟨0, (), rfl, rfl, ⟨by rw [ht]; exact hP, hD⟩⟩, hS.F ht⟩) hS.2.2 dX11_readLaw_47
set_option maxHeartbeats 4000000 in
set_option maxRecDepth 100000 in
theorem c_X11_text (l : Launch) (dC : Nat → ClassId) (dI : Nat → Nat → Nat) (cI cJ : ClassId) (h0 h1 h2 h3 h4 h5 h6 h7 h8 h9 h10 h11 h12 h13 h14 h15 h16 h17 h18 h19 h20 h21 h22 h23 : Nat) (sz : Nat) (p0 : Int32) : Met l yX11_text (.code yX11_text cX11_text 2 (some .int) :: wA) ({ frames := 4, cells := 0, slots := 0, locals := 83 }) (zP (dC, dI) [(cI, .int), (cJ, .long)] [.ref h0, .int p0] sz [(h0, .inr (11, [.int 0, .ref h1, .int 0, .int 0, .int 0, .int 0, .ref h2, .ref h3, .ref h4, .ref h5, .ref h6, .ref h7, .ref h8, .int 0, .int 0, .ref h9, .ref h10, .ref h11, .ref h12, .ref h13, .int 0, .int 0, .ref h14, .ref h15, .ref h16, .int 0, .int 0, .ref h17, .ref h18, .int (-1), .int 0, .ref h19, .int 0, .long 0, .ref h20, .int 0, .int 0, .ref h21, .ref h22, .ref h23, .int 0])), (h4, .inl (cI, 5, .inl (fun _ => 0))), (h5, .inl (cI, 5, .inl (fun _ => 0))), (h11, .inl (cI, 3, .inl (fun _ => 0)))]) (va_Qi (fun (r : Int32) (_ : Unit) => r = (-1)) (fun (_ : Unit) (_ : State) => True) (va_A [(h0, .inr (11, [.int 0, .ref h1, .int 0, .int 0, .int 0, .int 0, .ref h2, .ref h3, .ref h4, .ref h5, .ref h6, .ref h7, .ref h8, .int 0, .int 0, .ref h9, .ref h10, .ref h11, .ref h12, .ref h13, .int 0, .int 0, .ref h14, .ref h15, .ref h16, .int 0, .int 0, .ref h17, .ref h18, .int (-1), .int 0, .ref h19, .int 0, .long 0, .ref h20, .int 0, .int 0, .ref h21, .ref h22, .ref h23, .int 0])), (h4, .inl (cI, 5, .inl (fun _ => 0))), (h5, .inl (cI, 5, .inl (fun _ => 0))), (h11, .inl (cI, 3, .inl (fun _ => 0)))] sz)) 0 0 (va_A [(h0, .inr (11, [.int 0, .ref h1, .int 0, .int 0, .int 0, .int 0, .ref h2, .ref h3, .ref h4, .ref h5, .ref h6, .ref h7, .ref h8, .int 0, .int 0, .ref h9, .ref h10, .ref h11, .ref h12, .ref h13, .int 0, .int 0, .ref h14, .ref h15, .ref h16, .int 0, .int 0, .ref h17, .ref h18, .int (-1), .int 0, .ref h19, .int 0, .long 0, .ref h20, .int 0, .int 0, .ref h21, .ref h22, .ref h23, .int 0])), (h4, .inl (cI, 5, .inl (fun _ => 0))), (h5, .inl (cI, 5, .inl (fun _ => 0))), (h11, .inl (cI, 3, .inl (fun _ => 0)))] sz) := by
  refine Met.ofW (cc := cX11_text) (maxL := 2) (ret := (some .int)) (by decide) rfl ?_
  intro p e s m args below meth c s₁ B hml hv
  obtain ⟨rfl, hsz, hP, hK, hT⟩ := hv
  have hx := B.exec
  have hb := B.bytes
  have hr := B.returns
  have hts : ∀ w ∈ wA, w.before _ s = true := fun w h => atoms_spec (ws := .code yX11_text cX11_text 2 (some .int) :: wA) B.pre w (List.mem_cons_of_mem _ h)
  have hown : s.vm.findClass RX11 = some m.cls := findClass_of_methodNamed B.named
  have hlocks := B.notSynchronized
  subst hsz
  have hD := hT.self (sz := s.heap.size)
  generalize hAe : va_A [(h0, .inr (11, [.int 0, .ref h1, .int 0, .int 0, .int 0, .int 0, .ref h2, .ref h3, .ref h4, .ref h5, .ref h6, .ref h7, .ref h8, .int 0, .int 0, .ref h9, .ref h10, .ref h11, .ref h12, .ref h13, .int 0, .int 0, .ref h14, .ref h15, .ref h16, .int 0, .int 0, .ref h17, .ref h18, .int (-1), .int 0, .ref h19, .int 0, .long 0, .ref h20, .int 0, .int 0, .ref h21, .ref h22, .ref h23, .int 0])), (h4, .inl (cI, 5, .inl (fun _ => 0))), (h5, .inl (cI, 5, .inl (fun _ => 0))), (h11, .inl (cI, 3, .inl (fun _ => 0)))] s.heap.size = A at hD ⊢
  have hA : ∀ q : Nat, s.heap.size ≤ q → A q := fun q h => by rw [← hAe]; exact Or.inr h
  have hl := lv_entry ([.ref h0, .int p0]) (n := 2) (Nat.le_of_ble_eq_true rfl)
  rw [lg_entry_eq]
  generalize (lg_sl ([.ref h0, .int p0]) ++ List.replicate (2 - (lg_sl ([.ref h0, .int p0])).length) Slot.unset).toArray = ls at hl ⊢
  have hl : lv_has ls 2 [(0, .ref h0), (1, .int p0)] := hl
  refine zstart (fun H hH => ?_)
  rw [← hH] at hP
  have hS : va_S A s.heap H [] := by rw [hH]; exact va_S.rf
  refine lv_iload_n hx hb dX11_text_0 rfl (lv_at hl 1 rfl) ?_
  refine lv_if_ne (tgt := 22) hx hb dX11_text_1 (by decide) (fun c_1 => ?_) (fun c_1 => ?_)
  · have i_1 : ¬ p0.toInt = 0 := z6 rfl (by decide) c_1
    refine lv_iload_n hx hb dX11_text_22 rfl (lv_at hl 1 rfl) ?_
    refine lv_iconst (v := 1) hx hb dX11_text_23 (by decide) ?_
    refine lv_icmp_ne (tgt := 69) hx hb dX11_text_24 (by decide) (fun c_2 => ?_) (fun c_2 => ?_)
    · have i_2 : ¬ p0.toInt = 1 := z6 rfl (by decide) c_2
      refine lv_iconst (v := (-1)) hx hb dX11_text_69 (by decide) ?_
      exact W.iret (v := ((-1))) hx hb hr (fun t ht hW => ⟨⟨(-1), (), rfl, rfl, trivial⟩, hS.F ht⟩) hS.2.2 dX11_text_70
    · have i_2 : p0.toInt = 1 := z5 rfl (by decide) c_2
      refine lv_aload_n hx hb dX11_text_27 rfl (lv_at hl 0 rfl) ?_
      refine va_get (D := (dC, dI)) (ci := 11) (v := .int 0) (C := RX11) (T := TX11) (N := 41) hx hb hts iX11 hown hK hP 0 rfl rfl 13 (by decide) (hts _ qw1140) (fun _ h9 => h9) rfl dX11_text_28 ?_
      refine lv_iconst (v := 4) hx hb dX11_text_31 (by decide) ?_
      refine lv_icmp_ge (tgt := 69) hx hb dX11_text_32 (by decide) (fun c => absurd c (by decide)) (fun _ => ?_)
      refine lv_aload_n hx hb dX11_text_35 rfl (lv_at hl 0 rfl) ?_
      refine lv_aload_n hx hb dX11_text_36 rfl (lv_at hl 0 rfl) ?_
      refine va_get (D := (dC, dI)) (ci := 11) (v := .int 0) (C := RX11) (T := TX11) (N := 41) hx hb hts iX11 hown hK hP 0 rfl rfl 13 (by decide) (hts _ qw1140) (fun _ h9 => h9) rfl dX11_text_37 ?_
      have hPc := hP.sub (ws' := [(h0, .inr (11, [.int 0, .ref h1, .int 0, .int 0, .int 0, .int 0, .ref h2, .ref h3, .ref h4, .ref h5, .ref h6, .ref h7, .ref h8, .int 0, .int 0, .ref h9, .ref h10, .ref h11, .ref h12, .ref h13, .int 0, .int 0, .ref h14, .ref h15, .ref h16, .int 0, .int 0, .ref h17, .ref h18, .int (-1), .int 0, .ref h19, .int 0, .long 0, .ref h20, .int 0, .int 0, .ref h21, .ref h22, .ref h23, .int 0])), (h4, .inl (cI, 5, .inl (fun _ => 0))), (h5, .inl (cI, 5, .inl (fun _ => 0)))]) [0, 1, 2] rfl
      have hDc := hD.sub (ws' := [(h0, .inr (11, [.int 0, .ref h1, .int 0, .int 0, .int 0, .int 0, .ref h2, .ref h3, .ref h4, .ref h5, .ref h6, .ref h7, .ref h8, .int 0, .int 0, .ref h9, .ref h10, .ref h11, .ref h12, .ref h13, .int 0, .int 0, .ref h14, .ref h15, .ref h16, .int 0, .int 0, .ref h17, .ref h18, .int (-1), .int 0, .ref h19, .int 0, .long 0, .ref h20, .int 0, .int 0, .ref h21, .ref h22, .ref h23, .int 0])), (h4, .inl (cI, 5, .inl (fun _ => 0))), (h5, .inl (cI, 5, .inl (fun _ => 0)))]) [0, 1, 2] (by decide) rfl
      have hFc := va_free (wc := [(h0, .inr (11, [.int 0, .ref h1, .int 0, .int 0, .int 0, .int 0, .ref h2, .ref h3, .ref h4, .ref h5, .ref h6, .ref h7, .ref h8, .int 0, .int 0, .ref h9, .ref h10, .ref h11, .ref h12, .ref h13, .int 0, .int 0, .ref h14, .ref h15, .ref h16, .int 0, .int 0, .ref h17, .ref h18, .int (-1), .int 0, .ref h19, .int 0, .long 0, .ref h20, .int 0, .int 0, .ref h21, .ref h22, .ref h23, .int 0])), (h4, .inl (cI, 5, .inl (fun _ => 0))), (h5, .inl (cI, 5, .inl (fun _ => 0)))]) hD hS hA [0, 1, 2] rfl
      refine va_calli (va_runV (As := [.int 0]) (rest := []) ⟨hx, hb, hml, hown, hts⟩ (c_X11_readLaw_1 l dC dI cI cJ h0 h1 h2 h3 h4 h5 h6 h7 h8 h9 h10 h11 h12 h13 h14 h15 h16 h17 h18 h19 h20 h21 h22 h23 H.size) (cwV 1 hts (zgV qw1312 qw1314 qw37 qw108 qw1315) rfl rfl rfl hd_X11_readLaw ⟨Nat.le_of_ble_eq_true rfl, Nat.le_of_ble_eq_true rfl⟩) (zPV hPc hK hDc (va_recv hK hP (ci := 11) (q0 := 0) rfl rfl)) rfl rfl hl.1 rfl (lv_room (Nat.le_of_ble_eq_true rfl)) dX11_text_40 ⟨Nat.le_of_ble_eq_true rfl, Nat.le_of_ble_eq_true rfl⟩) hS (fun q _ h => hFc q h) hFc (fun r_3 u t H locs ht hvm hw hB hz1 hk1 hS => ?_)
      obtain ⟨hP1, hD1⟩ := hB
      rw [ht] at hP1
      obtain ⟨hP, hD⟩ := va_join (wr := [(h11, .inl (cI, 3, .inl (fun _ => 0)))]) (w1 := [(h4, .inl (cI, 5, .inl (upd (fun _ => 0) 0 0))), (h5, .inl (cI, 5, .inl (upd (fun _ => 0) 0 0))), (h0, .inr (11, [.int 0, .ref h1, .int 0, .int 2, .int 0, .int 0, .ref h2, .ref h3, .ref h4, .ref h5, .ref h6, .ref h7, .ref h8, .int 0, .int 0, .ref h9, .ref h10, .ref h11, .ref h12, .ref h13, .int 0, .int 0, .ref h14, .ref h15, .ref h16, .int 0, .int 0, .ref h17, .ref h18, .int (-1), .int 0, .ref h19, .int 0, .long 0, .ref h20, .int 0, .int 0, .ref h21, .ref h22, .ref h23, .int 0]))]) hP hD [0, 1, 2] [3] rfl rfl (by decide) (by decide) hk1 hFc hP1 hD1
      have hP : va_P (dC, dI) vwCl [(h11, .inl (cI, 3, .inl (fun _ => 0))), (h4, .inl (cI, 5, .inl (upd (fun _ => 0) 0 0))), (h5, .inl (cI, 5, .inl (upd (fun _ => 0) 0 0))), (h0, .inr (11, [.int 0, .ref h1, .int 0, .int 2, .int 0, .int 0, .ref h2, .ref h3, .ref h4, .ref h5, .ref h6, .ref h7, .ref h8, .int 0, .int 0, .ref h9, .ref h10, .ref h11, .ref h12, .ref h13, .int 0, .int 0, .ref h14, .ref h15, .ref h16, .int 0, .int 0, .ref h17, .ref h18, .int (-1), .int 0, .ref h19, .int 0, .long 0, .ref h20, .int 0, .int 0, .ref h21, .ref h22, .ref h23, .int 0]))] H := hP
      have hD : va_D A [(h11, .inl (cI, 3, .inl (fun _ => 0))), (h4, .inl (cI, 5, .inl (upd (fun _ => 0) 0 0))), (h5, .inl (cI, 5, .inl (upd (fun _ => 0) 0 0))), (h0, .inr (11, [.int 0, .ref h1, .int 0, .int 2, .int 0, .int 0, .ref h2, .ref h3, .ref h4, .ref h5, .ref h6, .ref h7, .ref h8, .int 0, .int 0, .ref h9, .ref h10, .ref h11, .ref h12, .ref h13, .int 0, .int 0, .ref h14, .ref h15, .ref h16, .int 0, .int 0, .ref h17, .ref h18, .int (-1), .int 0, .ref h19, .int 0, .long 0, .ref h20, .int 0, .int 0, .ref h21, .ref h22, .ref h23, .int 0]))] := hD
      have hw : r_3 = 0 := hw
      subst hw
      refine lv_iconst (v := (-1)) hx hb dX11_text_43 (by decide) ?_
      refine lv_icmp_ne (tgt := 69) hx hb dX11_text_44 (by decide) (fun _ => ?_) (fun c => absurd c (by decide))
      refine lv_iconst (v := (-1)) hx hb dX11_text_69 (by decide) ?_
      exact W.iret (v := ((-1))) hx hb hr (fun t ht hW => ⟨⟨(-1), (), rfl, rfl, trivial⟩, hS.F ht⟩) hS.2.2 dX11_text_70
  · have i_1 : p0.toInt = 0 := z5 rfl (by decide) c_1
    refine lv_aload_n hx hb dX11_text_4 rfl (lv_at hl 0 rfl) ?_
    have hPc := hP.sub (ws' := [(h0, .inr (11, [.int 0, .ref h1, .int 0, .int 0, .int 0, .int 0, .ref h2, .ref h3, .ref h4, .ref h5, .ref h6, .ref h7, .ref h8, .int 0, .int 0, .ref h9, .ref h10, .ref h11, .ref h12, .ref h13, .int 0, .int 0, .ref h14, .ref h15, .ref h16, .int 0, .int 0, .ref h17, .ref h18, .int (-1), .int 0, .ref h19, .int 0, .long 0, .ref h20, .int 0, .int 0, .ref h21, .ref h22, .ref h23, .int 0])), (h11, .inl (cI, 3, .inl (fun _ => 0)))]) [0, 3] rfl
    have hDc := hD.sub (ws' := [(h0, .inr (11, [.int 0, .ref h1, .int 0, .int 0, .int 0, .int 0, .ref h2, .ref h3, .ref h4, .ref h5, .ref h6, .ref h7, .ref h8, .int 0, .int 0, .ref h9, .ref h10, .ref h11, .ref h12, .ref h13, .int 0, .int 0, .ref h14, .ref h15, .ref h16, .int 0, .int 0, .ref h17, .ref h18, .int (-1), .int 0, .ref h19, .int 0, .long 0, .ref h20, .int 0, .int 0, .ref h21, .ref h22, .ref h23, .int 0])), (h11, .inl (cI, 3, .inl (fun _ => 0)))]) [0, 3] (by decide) rfl
    have hFc := va_free (wc := [(h0, .inr (11, [.int 0, .ref h1, .int 0, .int 0, .int 0, .int 0, .ref h2, .ref h3, .ref h4, .ref h5, .ref h6, .ref h7, .ref h8, .int 0, .int 0, .ref h9, .ref h10, .ref h11, .ref h12, .ref h13, .int 0, .int 0, .ref h14, .ref h15, .ref h16, .int 0, .int 0, .ref h17, .ref h18, .int (-1), .int 0, .ref h19, .int 0, .long 0, .ref h20, .int 0, .int 0, .ref h21, .ref h22, .ref h23, .int 0])), (h11, .inl (cI, 3, .inl (fun _ => 0)))]) hD hS hA [0, 3] rfl
    refine va_calli (va_runV (As := []) (rest := []) ⟨hx, hb, hml, hown, hts⟩ (c_X11_readCourt l dC dI cI cJ h0 h1 h2 h3 h4 h5 h6 h7 h8 h9 h10 h11 h12 h13 h14 h15 h16 h17 h18 h19 h20 h21 h22 h23 H.size) (cwV 0 hts (zgV qw1270 qw1272 qw31 qw108 qw1273) rfl rfl rfl hd_X11_readCourt ⟨Nat.le_of_ble_eq_true rfl, Nat.le_of_ble_eq_true rfl⟩) (zPV hPc hK hDc (va_recv hK hP (ci := 11) (q0 := 0) rfl rfl)) rfl rfl hl.1 rfl (lv_room (Nat.le_of_ble_eq_true rfl)) dX11_text_5 ⟨Nat.le_of_ble_eq_true rfl, Nat.le_of_ble_eq_true rfl⟩) hS (fun q _ h => hFc q h) hFc (fun r_4 u t H locs ht hvm hw hB hz1 hk1 hS => ?_)
    obtain ⟨hP1, hD1⟩ := hB
    rw [ht] at hP1
    obtain ⟨hP, hD⟩ := va_join (wr := [(h4, .inl (cI, 5, .inl (fun _ => 0))), (h5, .inl (cI, 5, .inl (fun _ => 0)))]) (w1 := [(h11, .inl (cI, 3, .inl (upd (upd (upd (fun _ => 0) 0 40) 1 5) 2 3))), (h0, .inr (11, [.int 0, .ref h1, .int 0, .int 0, .int 0, .int 0, .ref h2, .ref h3, .ref h4, .ref h5, .ref h6, .ref h7, .ref h8, .int 0, .int 0, .ref h9, .ref h10, .ref h11, .ref h12, .ref h13, .int 0, .int 0, .ref h14, .ref h15, .ref h16, .int 0, .int 0, .ref h17, .ref h18, .int (-1), .int 0, .ref h19, .int 0, .long 0, .ref h20, .int 0, .int 0, .ref h21, .ref h22, .ref h23, .int 0]))]) hP hD [0, 3] [1, 2] rfl rfl (by decide) (by decide) hk1 hFc hP1 hD1
    have hP : va_P (dC, dI) vwCl [(h4, .inl (cI, 5, .inl (fun _ => 0))), (h5, .inl (cI, 5, .inl (fun _ => 0))), (h11, .inl (cI, 3, .inl (upd (upd (upd (fun _ => 0) 0 40) 1 5) 2 3))), (h0, .inr (11, [.int 0, .ref h1, .int 0, .int 0, .int 0, .int 0, .ref h2, .ref h3, .ref h4, .ref h5, .ref h6, .ref h7, .ref h8, .int 0, .int 0, .ref h9, .ref h10, .ref h11, .ref h12, .ref h13, .int 0, .int 0, .ref h14, .ref h15, .ref h16, .int 0, .int 0, .ref h17, .ref h18, .int (-1), .int 0, .ref h19, .int 0, .long 0, .ref h20, .int 0, .int 0, .ref h21, .ref h22, .ref h23, .int 0]))] H := hP
    have hD : va_D A [(h4, .inl (cI, 5, .inl (fun _ => 0))), (h5, .inl (cI, 5, .inl (fun _ => 0))), (h11, .inl (cI, 3, .inl (upd (upd (upd (fun _ => 0) 0 40) 1 5) 2 3))), (h0, .inr (11, [.int 0, .ref h1, .int 0, .int 0, .int 0, .int 0, .ref h2, .ref h3, .ref h4, .ref h5, .ref h6, .ref h7, .ref h8, .int 0, .int 0, .ref h9, .ref h10, .ref h11, .ref h12, .ref h13, .int 0, .int 0, .ref h14, .ref h15, .ref h16, .int 0, .int 0, .ref h17, .ref h18, .int (-1), .int 0, .ref h19, .int 0, .long 0, .ref h20, .int 0, .int 0, .ref h21, .ref h22, .ref h23, .int 0]))] := hD
    have hw : r_4 = 0 := hw
    subst hw
    refine lv_iconst (v := (-1)) hx hb dX11_text_8 (by decide) ?_
    refine lv_icmp_ne (tgt := 22) hx hb dX11_text_9 (by decide) (fun _ => ?_) (fun c => absurd c (by decide))
    refine lv_iload_n hx hb dX11_text_22 rfl (lv_at hl 1 rfl) ?_
    refine lv_iconst (v := 1) hx hb dX11_text_23 (by decide) ?_
    refine lv_icmp_ne (tgt := 69) hx hb dX11_text_24 (by decide) (fun c_5 => ?_) (fun c_5 => by exfalso; have i_5 : p0.toInt = 1 := z5 rfl (by decide) c_5; omega)
    have i_5 : ¬ p0.toInt = 1 := z6 rfl (by decide) c_5
    refine lv_iconst (v := (-1)) hx hb dX11_text_69 (by decide) ?_
    exact W.iret (v := ((-1))) hx hb hr (fun t ht hW => ⟨⟨(-1), (), rfl, rfl, trivial⟩, hS.F ht⟩) hS.2.2 dX11_text_70
