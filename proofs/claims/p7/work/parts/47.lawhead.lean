/-! THE CLAIM OUT OF ONE WALK OF THE LAW'S BODY. Your part is whole_start (and what it stands on); all else here is the same for every law, but numbers. -/
def R_law : String := "NinePortraitsLaw"
def lw_P (b : Addr) (xs : List Int32) (args : Array Value) (s : State) : Prop := args = #[.ref b] ∧ s.IntsAt b xs ∧ xs.length ≤ 3584 ∧ (Jvm.Cond.and given_1 narrow_1).before args s = true
def lw_Q (_ : Array Value) (s : State) (o : Outcome) (t : State) : Prop := o = .returned (some (.int 1)) ∧ Framed s o t [] 601024 7293034
def lw_Z (below : List Frame) (a : Array Value) (s : State) : State → Prop := fun t => ∃ o, t.status = .running ∧ Ended t below o ∧ lw_Q a s o t
/-- the law's own end, with 1 on the stack, nothing written that was there before, its room as the claim has it -/
theorem lw_ret {p : Program} {l : Launch} {e : Env} {s : State} {m : MethodId} {below : List Frame} {meth : Method} {c : Code} {b : Nat} (hx : p.tables.exec = Jvm.exec) (hb : c.code = code) (hr : meth.sig.returnType = ret) (hlocks : meth.locks = false) {pc : Nat} {H : Heap} {ls : Array Slot} (hdg : decode code pc = .ok (.ireturn, 1)) : W p l e room_1 s m #[Value.ref b] below meth c H [] 601024 7293034 (lw_Z below #[Value.ref b] s) (F0 m pc ls [.int 1]) := by
  intro T hT X
  obtain ⟨fs, hret, hrun, hended, hW, hframe⟩ := X.leave (v := some (.int 1)) (hlocks := hlocks) (fun h => by rw [hr] at h; cases h)
  have hmeth' : T.vm.method? m = some meth := X.method'
  refine ⟨T.setFrames fs, ?_, .returned (some (.int 1)), hrun, hended, rfl, ⟨_, rfl⟩, hW, hframe⟩
  jvm_step X.here [X.here.top, hx, hb, hdg, hmeth', hr, ret, narrow_b1]
  (try refine ⟨rfl, ?_⟩); (try refine ⟨rfl, ?_⟩)
  first | (intro acts; rw [hret _ acts rfl rfl rfl]) | rw [hret _ _ rfl rfl rfl]
  exact Steps.refl _
/-- what holds at the law's entry: the machine, the code, the tables' words (any of lw_tbl by 'hts w (by decide +kernel)'), the script of L ints xs at the cell b, what the Statement gives of the start (any of its parts by flat_of_before) -/
def lw_At (p : Program) (s : State) (m : MethodId) (meth : Method) (c : Code) (b L : Nat) (xs : Nat → Int32) : Prop :=
  p.tables.exec = Jvm.exec ∧ c.code = code ∧ meth.sig.returnType = ret ∧ c.maxLocals = 7 ∧ s.vm.findClass R_law = some m.cls ∧ (∀ w ∈ lw_tbl, w.before #[Value.ref b] s = true) ∧ va_X b L xs s s.heap ∧ b < s.heap.size ∧ meth.locks = false ∧ (Jvm.Cond.and given_1 narrow_1).before #[Value.ref b] s = true
theorem zarr {s : State} {args : Array Value} {ty : FieldType} (hne : ∀ C, ty ≠ .object C) (h : (Cond.arrayClass ty).before args s = true) : ∃ cA : ClassId, ArrOfT s cA ty ∧ va_RA s cA ty := by
  obtain ⟨cA, kA, comp, h1, h2, h3⟩ := Cond.arrayClass_spec h
  refine ⟨cA, fun n z => ⟨fun k h => (by cases h), kA, h2, comp, h3⟩, ?_⟩
  cases ty <;> first | exact h1 | exact absurd rfl (hne _)
theorem zarrQ {s : State} {args : Array Value} {C : String} (h : (Cond.arrayOver (.object C)).before args s = true) : ∃ cA : ClassId, ArrOfT s cA (.object C) ∧ va_RA s cA (.object C) := by
  obtain ⟨comp, c, k, h1, h2, h3, h4, h5⟩ := Cond.arrayOver_spec h
  exact ⟨c, fun N z => ⟨(fun k h => by cases h), k, h3, comp, h4⟩, k, comp, h3, h4, h1, h5⟩
set_option maxRecDepth 20000 in
theorem zE_law {b : Nat} {s : State} (hts0 : ∀ w ∈ lw_tbl, w.before #[Value.ref b] s = true) : zE s :=
  ⟨va_Nw.of rfl (hts0 _ (List.mem_of_getElem? (i := 128) (by decide +kernel))), va_Nw.of rfl (hts0 _ (List.mem_of_getElem? (i := 150) (by decide +kernel))), va_Nw.of rfl (hts0 _ (List.mem_of_getElem? (i := 166) (by decide +kernel))), va_Nw.of rfl (hts0 _ (List.mem_of_getElem? (i := 182) (by decide +kernel))), va_Nw.of rfl (hts0 _ (List.mem_of_getElem? (i := 216) (by decide +kernel))), va_Nw.of rfl (hts0 _ (List.mem_of_getElem? (i := 264) (by decide +kernel))), va_Nw.of rfl (hts0 _ (List.mem_of_getElem? (i := 348) (by decide +kernel))), va_AO.of (hts0 _ (List.mem_of_getElem? (i := 213) (by decide +kernel)))⟩
set_option maxRecDepth 20000 in
theorem zCa_law {b : Nat} {s : State} (hts0 : ∀ w ∈ lw_tbl, w.before #[Value.ref b] s = true) : zCa s := va_Nw.of rfl (hts0 _ (List.mem_of_getElem? (i := 566) (by decide +kernel)))
set_option maxRecDepth 20000 in
theorem zG_law {b : Nat} {s : State} (hts0 : ∀ w ∈ lw_tbl, w.before #[Value.ref b] s = true) (hgv : (Jvm.Cond.and given_1 narrow_1).before #[Value.ref b] s = true) : zG (fun q : Nat => s.heap.size ≤ q) s := by
  have hs := flat_of_before _ hgv
  have hA : ∀ a : Nat, a < s.heap.size → ¬ (fun q : Nat => s.heap.size ≤ q) a := fun a h => Nat.not_le.mpr h
  have r1 : (Cond.isRef (.static Bundle.tN "UNASSIGNED_STACK" Bundle.steD)).before #[Value.ref b] s = true := hs _ (by decide +kernel)
  have r2 : (Cond.isRef (.static Bundle.tN "SUPPRESSED_SENTINEL" Bundle.listD)).before #[Value.ref b] s = true := hs _ (by decide +kernel)
  exact ⟨⟨va_Nw.of rfl (hts0 _ (List.mem_of_getElem? (i := 1062) (by decide +kernel))), va_Nw.of rfl (hts0 _ (List.mem_of_getElem? (i := 1064) (by decide +kernel))), va_Nw.of rfl (hts0 _ (List.mem_of_getElem? (i := 1066) (by decide +kernel))), va_Nw.of rfl (hts0 _ (List.mem_of_getElem? (i := 1061) (by decide +kernel)))⟩, vx_Zqof (hts0 _ (List.mem_of_getElem? (i := 1086) (by decide +kernel))) (hts0 _ (List.mem_of_getElem? (i := 113) (by decide +kernel))) r1 hA, vx_Zqof (hts0 _ (List.mem_of_getElem? (i := 1088) (by decide +kernel))) (hts0 _ (List.mem_of_getElem? (i := 113) (by decide +kernel))) r2 hA⟩
set_option maxRecDepth 20000 in
theorem zV0_law {b : Nat} {s : State} (hts0 : ∀ w ∈ lw_tbl, w.before #[Value.ref b] s = true) (hgv : (Jvm.Cond.and given_1 narrow_1).before #[Value.ref b] s = true) : zTb 0 "NinePortraits$LawReader" "LETTERS" "[C" .char 6 (fun q : Nat => s.heap.size ≤ q) s := by
  have hs := flat_of_before _ hgv
  have hA : ∀ a : Nat, a < s.heap.size → ¬ (fun q : Nat => s.heap.size ≤ q) a := fun a h => Nat.not_le.mpr h
  have ha : (Cond.arrayOf (.static "NinePortraits$LawReader" "LETTERS" "[C") .char).before #[Value.ref b] s = true := hs _ (by decide +kernel)
  have hn : (Cond.eq (.length (.static "NinePortraits$LawReader" "LETTERS" "[C")) (.int 6)).before #[Value.ref b] s = true := hs _ (by decide +kernel)
  have e0 : (Cond.eq (.elem (.static "NinePortraits$LawReader" "LETTERS" "[C") (.int 0)) (.int 102)).before #[Value.ref b] s = true := hs _ (by decide +kernel)
  have e1 : (Cond.eq (.elem (.static "NinePortraits$LawReader" "LETTERS" "[C") (.int 1)) (.int 119)).before #[Value.ref b] s = true := hs _ (by decide +kernel)
  have e2 : (Cond.eq (.elem (.static "NinePortraits$LawReader" "LETTERS" "[C") (.int 2)) (.int 121)).before #[Value.ref b] s = true := hs _ (by decide +kernel)
  have e3 : (Cond.eq (.elem (.static "NinePortraits$LawReader" "LETTERS" "[C") (.int 3)) (.int 115)).before #[Value.ref b] s = true := hs _ (by decide +kernel)
  have e4 : (Cond.eq (.elem (.static "NinePortraits$LawReader" "LETTERS" "[C") (.int 4)) (.int 97)).before #[Value.ref b] s = true := hs _ (by decide +kernel)
  have e5 : (Cond.eq (.elem (.static "NinePortraits$LawReader" "LETTERS" "[C") (.int 5)) (.int 109)).before #[Value.ref b] s = true := hs _ (by decide +kernel)
  obtain ⟨g0, h1, h2⟩ := va_Tof (tm := .static "NinePortraits$LawReader" "LETTERS" "[C") (ty := .char) (N := 6) (f := fun j => .int (ztf0 j)) (by decide) ha (va_eqt hn) (fun j hj => match j, hj with
    | 0, _ => va_eqt e0
    | 1, _ => va_eqt e1
    | 2, _ => va_eqt e2
    | 3, _ => va_eqt e3
    | 4, _ => va_eqt e4
    | 5, _ => va_eqt e5
    | k + 6, h => absurd h (by omega)) hA
  exact ⟨g0, va_Zref (hts0 _ (List.mem_of_getElem? (i := 495) (by decide +kernel))) (hts0 _ (List.mem_of_getElem? (i := 101) (by decide +kernel))) h1 hA, ztf0, h2, fun _ _ => rfl⟩
set_option maxRecDepth 20000 in
theorem zV1_law {b : Nat} {s : State} (hts0 : ∀ w ∈ lw_tbl, w.before #[Value.ref b] s = true) (hgv : (Jvm.Cond.and given_1 narrow_1).before #[Value.ref b] s = true) : zTb 1 "NinePortraits$CourtReader" "RULE_LETTERS" "[C" .char 3 (fun q : Nat => s.heap.size ≤ q) s := by
  have hs := flat_of_before _ hgv
  have hA : ∀ a : Nat, a < s.heap.size → ¬ (fun q : Nat => s.heap.size ≤ q) a := fun a h => Nat.not_le.mpr h
  have ha : (Cond.arrayOf (.static "NinePortraits$CourtReader" "RULE_LETTERS" "[C") .char).before #[Value.ref b] s = true := hs _ (by decide +kernel)
  have hn : (Cond.eq (.length (.static "NinePortraits$CourtReader" "RULE_LETTERS" "[C")) (.int 3)).before #[Value.ref b] s = true := hs _ (by decide +kernel)
  have e0 : (Cond.eq (.elem (.static "NinePortraits$CourtReader" "RULE_LETTERS" "[C") (.int 0)) (.int 112)).before #[Value.ref b] s = true := hs _ (by decide +kernel)
  have e1 : (Cond.eq (.elem (.static "NinePortraits$CourtReader" "RULE_LETTERS" "[C") (.int 1)) (.int 102)).before #[Value.ref b] s = true := hs _ (by decide +kernel)
  have e2 : (Cond.eq (.elem (.static "NinePortraits$CourtReader" "RULE_LETTERS" "[C") (.int 2)) (.int 100)).before #[Value.ref b] s = true := hs _ (by decide +kernel)
  obtain ⟨g0, h1, h2⟩ := va_Tof (tm := .static "NinePortraits$CourtReader" "RULE_LETTERS" "[C") (ty := .char) (N := 3) (f := fun j => .int (ztf1 j)) (by decide) ha (va_eqt hn) (fun j hj => match j, hj with
    | 0, _ => va_eqt e0
    | 1, _ => va_eqt e1
    | 2, _ => va_eqt e2
    | k + 3, h => absurd h (by omega)) hA
  exact ⟨g0, va_Zref (hts0 _ (List.mem_of_getElem? (i := 442) (by decide +kernel))) (hts0 _ (List.mem_of_getElem? (i := 100) (by decide +kernel))) h1 hA, ztf1, h2, fun _ _ => rfl⟩
set_option maxRecDepth 20000 in
theorem zV2_law {b : Nat} {s : State} (hts0 : ∀ w ∈ lw_tbl, w.before #[Value.ref b] s = true) (hgv : (Jvm.Cond.and given_1 narrow_1).before #[Value.ref b] s = true) : zTb 2 "NinePortraits$CourtReader" "RULE_BOUNDS" "[I" .int 3 (fun q : Nat => s.heap.size ≤ q) s := by
  have hs := flat_of_before _ hgv
  have hA : ∀ a : Nat, a < s.heap.size → ¬ (fun q : Nat => s.heap.size ≤ q) a := fun a h => Nat.not_le.mpr h
  have ha : (Cond.arrayOf (.static "NinePortraits$CourtReader" "RULE_BOUNDS" "[I") .int).before #[Value.ref b] s = true := hs _ (by decide +kernel)
  have hn : (Cond.eq (.length (.static "NinePortraits$CourtReader" "RULE_BOUNDS" "[I")) (.int 3)).before #[Value.ref b] s = true := hs _ (by decide +kernel)
  have e0 : (Cond.eq (.elem (.static "NinePortraits$CourtReader" "RULE_BOUNDS" "[I") (.int 0)) (.int 99)).before #[Value.ref b] s = true := hs _ (by decide +kernel)
  have e1 : (Cond.eq (.elem (.static "NinePortraits$CourtReader" "RULE_BOUNDS" "[I") (.int 1)) (.int 9)).before #[Value.ref b] s = true := hs _ (by decide +kernel)
  have e2 : (Cond.eq (.elem (.static "NinePortraits$CourtReader" "RULE_BOUNDS" "[I") (.int 2)) (.int 9)).before #[Value.ref b] s = true := hs _ (by decide +kernel)
  obtain ⟨g0, h1, h2⟩ := va_Tof (tm := .static "NinePortraits$CourtReader" "RULE_BOUNDS" "[I") (ty := .int) (N := 3) (f := fun j => .int (ztf2 j)) (by decide) ha (va_eqt hn) (fun j hj => match j, hj with
    | 0, _ => va_eqt e0
    | 1, _ => va_eqt e1
    | 2, _ => va_eqt e2
    | k + 3, h => absurd h (by omega)) hA
  exact ⟨g0, va_Zref (hts0 _ (List.mem_of_getElem? (i := 444) (by decide +kernel))) (hts0 _ (List.mem_of_getElem? (i := 100) (by decide +kernel))) h1 hA, ztf2, h2, fun _ _ => rfl⟩
set_option maxRecDepth 20000 in
theorem zV3_law {b : Nat} {s : State} (hts0 : ∀ w ∈ lw_tbl, w.before #[Value.ref b] s = true) (hgv : (Jvm.Cond.and given_1 narrow_1).before #[Value.ref b] s = true) : zTb 3 "NinePortraits$CourtReader" "RULE_DEFAULTS" "[I" .int 3 (fun q : Nat => s.heap.size ≤ q) s := by
  have hs := flat_of_before _ hgv
  have hA : ∀ a : Nat, a < s.heap.size → ¬ (fun q : Nat => s.heap.size ≤ q) a := fun a h => Nat.not_le.mpr h
  have ha : (Cond.arrayOf (.static "NinePortraits$CourtReader" "RULE_DEFAULTS" "[I") .int).before #[Value.ref b] s = true := hs _ (by decide +kernel)
  have hn : (Cond.eq (.length (.static "NinePortraits$CourtReader" "RULE_DEFAULTS" "[I")) (.int 3)).before #[Value.ref b] s = true := hs _ (by decide +kernel)
  have e0 : (Cond.eq (.elem (.static "NinePortraits$CourtReader" "RULE_DEFAULTS" "[I") (.int 0)) (.int 40)).before #[Value.ref b] s = true := hs _ (by decide +kernel)
  have e1 : (Cond.eq (.elem (.static "NinePortraits$CourtReader" "RULE_DEFAULTS" "[I") (.int 1)) (.int 5)).before #[Value.ref b] s = true := hs _ (by decide +kernel)
  have e2 : (Cond.eq (.elem (.static "NinePortraits$CourtReader" "RULE_DEFAULTS" "[I") (.int 2)) (.int 3)).before #[Value.ref b] s = true := hs _ (by decide +kernel)
  obtain ⟨g0, h1, h2⟩ := va_Tof (tm := .static "NinePortraits$CourtReader" "RULE_DEFAULTS" "[I") (ty := .int) (N := 3) (f := fun j => .int (ztf3 j)) (by decide) ha (va_eqt hn) (fun j hj => match j, hj with
    | 0, _ => va_eqt e0
    | 1, _ => va_eqt e1
    | 2, _ => va_eqt e2
    | k + 3, h => absurd h (by omega)) hA
  exact ⟨g0, va_Zref (hts0 _ (List.mem_of_getElem? (i := 429) (by decide +kernel))) (hts0 _ (List.mem_of_getElem? (i := 100) (by decide +kernel))) h1 hA, ztf3, h2, fun _ _ => rfl⟩
set_option maxRecDepth 20000 in
theorem zV4_law {b : Nat} {s : State} (hts0 : ∀ w ∈ lw_tbl, w.before #[Value.ref b] s = true) (hgv : (Jvm.Cond.and given_1 narrow_1).before #[Value.ref b] s = true) : zTb 4 "NinePortraits$CourtReader" "BRIDE_LETTERS" "[C" .char 4 (fun q : Nat => s.heap.size ≤ q) s := by
  have hs := flat_of_before _ hgv
  have hA : ∀ a : Nat, a < s.heap.size → ¬ (fun q : Nat => s.heap.size ≤ q) a := fun a h => Nat.not_le.mpr h
  have ha : (Cond.arrayOf (.static "NinePortraits$CourtReader" "BRIDE_LETTERS" "[C") .char).before #[Value.ref b] s = true := hs _ (by decide +kernel)
  have hn : (Cond.eq (.length (.static "NinePortraits$CourtReader" "BRIDE_LETTERS" "[C")) (.int 4)).before #[Value.ref b] s = true := hs _ (by decide +kernel)
  have e0 : (Cond.eq (.elem (.static "NinePortraits$CourtReader" "BRIDE_LETTERS" "[C") (.int 0)) (.int 102)).before #[Value.ref b] s = true := hs _ (by decide +kernel)
  have e1 : (Cond.eq (.elem (.static "NinePortraits$CourtReader" "BRIDE_LETTERS" "[C") (.int 1)) (.int 100)).before #[Value.ref b] s = true := hs _ (by decide +kernel)
  have e2 : (Cond.eq (.elem (.static "NinePortraits$CourtReader" "BRIDE_LETTERS" "[C") (.int 2)) (.int 119)).before #[Value.ref b] s = true := hs _ (by decide +kernel)
  have e3 : (Cond.eq (.elem (.static "NinePortraits$CourtReader" "BRIDE_LETTERS" "[C") (.int 3)) (.int 121)).before #[Value.ref b] s = true := hs _ (by decide +kernel)
  obtain ⟨g0, h1, h2⟩ := va_Tof (tm := .static "NinePortraits$CourtReader" "BRIDE_LETTERS" "[C") (ty := .char) (N := 4) (f := fun j => .int (ztf4 j)) (by decide) ha (va_eqt hn) (fun j hj => match j, hj with
    | 0, _ => va_eqt e0
    | 1, _ => va_eqt e1
    | 2, _ => va_eqt e2
    | 3, _ => va_eqt e3
    | k + 4, h => absurd h (by omega)) hA
  exact ⟨g0, va_Zref (hts0 _ (List.mem_of_getElem? (i := 462) (by decide +kernel))) (hts0 _ (List.mem_of_getElem? (i := 100) (by decide +kernel))) h1 hA, ztf4, h2, fun _ _ => rfl⟩
set_option maxRecDepth 20000 in
theorem zV5_law {b : Nat} {s : State} (hts0 : ∀ w ∈ lw_tbl, w.before #[Value.ref b] s = true) (hgv : (Jvm.Cond.and given_1 narrow_1).before #[Value.ref b] s = true) : zTb 5 "NinePortraits$CourtReader" "BRIDE_BOUNDS" "[I" .int 4 (fun q : Nat => s.heap.size ≤ q) s := by
  have hs := flat_of_before _ hgv
  have hA : ∀ a : Nat, a < s.heap.size → ¬ (fun q : Nat => s.heap.size ≤ q) a := fun a h => Nat.not_le.mpr h
  have ha : (Cond.arrayOf (.static "NinePortraits$CourtReader" "BRIDE_BOUNDS" "[I") .int).before #[Value.ref b] s = true := hs _ (by decide +kernel)
  have hn : (Cond.eq (.length (.static "NinePortraits$CourtReader" "BRIDE_BOUNDS" "[I")) (.int 4)).before #[Value.ref b] s = true := hs _ (by decide +kernel)
  have e0 : (Cond.eq (.elem (.static "NinePortraits$CourtReader" "BRIDE_BOUNDS" "[I") (.int 0)) (.int 9)).before #[Value.ref b] s = true := hs _ (by decide +kernel)
  have e1 : (Cond.eq (.elem (.static "NinePortraits$CourtReader" "BRIDE_BOUNDS" "[I") (.int 1)) (.int 99)).before #[Value.ref b] s = true := hs _ (by decide +kernel)
  have e2 : (Cond.eq (.elem (.static "NinePortraits$CourtReader" "BRIDE_BOUNDS" "[I") (.int 2)) (.int 9)).before #[Value.ref b] s = true := hs _ (by decide +kernel)
  have e3 : (Cond.eq (.elem (.static "NinePortraits$CourtReader" "BRIDE_BOUNDS" "[I") (.int 3)) (.int 9)).before #[Value.ref b] s = true := hs _ (by decide +kernel)
  obtain ⟨g0, h1, h2⟩ := va_Tof (tm := .static "NinePortraits$CourtReader" "BRIDE_BOUNDS" "[I") (ty := .int) (N := 4) (f := fun j => .int (ztf5 j)) (by decide) ha (va_eqt hn) (fun j hj => match j, hj with
    | 0, _ => va_eqt e0
    | 1, _ => va_eqt e1
    | 2, _ => va_eqt e2
    | 3, _ => va_eqt e3
    | k + 4, h => absurd h (by omega)) hA
  exact ⟨g0, va_Zref (hts0 _ (List.mem_of_getElem? (i := 464) (by decide +kernel))) (hts0 _ (List.mem_of_getElem? (i := 100) (by decide +kernel))) h1 hA, ztf5, h2, fun _ _ => rfl⟩
set_option maxRecDepth 20000 in
theorem zV6_law {b : Nat} {s : State} (hts0 : ∀ w ∈ lw_tbl, w.before #[Value.ref b] s = true) (hgv : (Jvm.Cond.and given_1 narrow_1).before #[Value.ref b] s = true) : zTb 6 "NinePortraits$CourtReader" "BRIDE_DEFAULTS" "[I" .int 4 (fun q : Nat => s.heap.size ≤ q) s := by
  have hs := flat_of_before _ hgv
  have hA : ∀ a : Nat, a < s.heap.size → ¬ (fun q : Nat => s.heap.size ≤ q) a := fun a h => Nat.not_le.mpr h
  have ha : (Cond.arrayOf (.static "NinePortraits$CourtReader" "BRIDE_DEFAULTS" "[I") .int).before #[Value.ref b] s = true := hs _ (by decide +kernel)
  have hn : (Cond.eq (.length (.static "NinePortraits$CourtReader" "BRIDE_DEFAULTS" "[I")) (.int 4)).before #[Value.ref b] s = true := hs _ (by decide +kernel)
  have e0 : (Cond.eq (.elem (.static "NinePortraits$CourtReader" "BRIDE_DEFAULTS" "[I") (.int 0)) (.int 5)).before #[Value.ref b] s = true := hs _ (by decide +kernel)
  have e1 : (Cond.eq (.elem (.static "NinePortraits$CourtReader" "BRIDE_DEFAULTS" "[I") (.int 1)) (.int 20)).before #[Value.ref b] s = true := hs _ (by decide +kernel)
  have e2 : (Cond.eq (.elem (.static "NinePortraits$CourtReader" "BRIDE_DEFAULTS" "[I") (.int 2)) (.int 1)).before #[Value.ref b] s = true := hs _ (by decide +kernel)
  have e3 : (Cond.eq (.elem (.static "NinePortraits$CourtReader" "BRIDE_DEFAULTS" "[I") (.int 3)) (.int 2)).before #[Value.ref b] s = true := hs _ (by decide +kernel)
  obtain ⟨g0, h1, h2⟩ := va_Tof (tm := .static "NinePortraits$CourtReader" "BRIDE_DEFAULTS" "[I") (ty := .int) (N := 4) (f := fun j => .int (ztf6 j)) (by decide) ha (va_eqt hn) (fun j hj => match j, hj with
    | 0, _ => va_eqt e0
    | 1, _ => va_eqt e1
    | 2, _ => va_eqt e2
    | 3, _ => va_eqt e3
    | k + 4, h => absurd h (by omega)) hA
  exact ⟨g0, va_Zref (hts0 _ (List.mem_of_getElem? (i := 460) (by decide +kernel))) (hts0 _ (List.mem_of_getElem? (i := 100) (by decide +kernel))) h1 hA, ztf6, h2, fun _ _ => rfl⟩
set_option maxRecDepth 20000 in
theorem zV7_law {b : Nat} {s : State} (hts0 : ∀ w ∈ lw_tbl, w.before #[Value.ref b] s = true) (hgv : (Jvm.Cond.and given_1 narrow_1).before #[Value.ref b] s = true) : zTb 7 "NinePortraits$CourtReader" "PAINTER_LETTERS" "[C" .char 4 (fun q : Nat => s.heap.size ≤ q) s := by
  have hs := flat_of_before _ hgv
  have hA : ∀ a : Nat, a < s.heap.size → ¬ (fun q : Nat => s.heap.size ≤ q) a := fun a h => Nat.not_le.mpr h
  have ha : (Cond.arrayOf (.static "NinePortraits$CourtReader" "PAINTER_LETTERS" "[C") .char).before #[Value.ref b] s = true := hs _ (by decide +kernel)
  have hn : (Cond.eq (.length (.static "NinePortraits$CourtReader" "PAINTER_LETTERS" "[C")) (.int 4)).before #[Value.ref b] s = true := hs _ (by decide +kernel)
  have e0 : (Cond.eq (.elem (.static "NinePortraits$CourtReader" "PAINTER_LETTERS" "[C") (.int 0)) (.int 115)).before #[Value.ref b] s = true := hs _ (by decide +kernel)
  have e1 : (Cond.eq (.elem (.static "NinePortraits$CourtReader" "PAINTER_LETTERS" "[C") (.int 1)) (.int 102)).before #[Value.ref b] s = true := hs _ (by decide +kernel)
  have e2 : (Cond.eq (.elem (.static "NinePortraits$CourtReader" "PAINTER_LETTERS" "[C") (.int 2)) (.int 97)).before #[Value.ref b] s = true := hs _ (by decide +kernel)
  have e3 : (Cond.eq (.elem (.static "NinePortraits$CourtReader" "PAINTER_LETTERS" "[C") (.int 3)) (.int 107)).before #[Value.ref b] s = true := hs _ (by decide +kernel)
  obtain ⟨g0, h1, h2⟩ := va_Tof (tm := .static "NinePortraits$CourtReader" "PAINTER_LETTERS" "[C") (ty := .char) (N := 4) (f := fun j => .int (ztf7 j)) (by decide) ha (va_eqt hn) (fun j hj => match j, hj with
    | 0, _ => va_eqt e0
    | 1, _ => va_eqt e1
    | 2, _ => va_eqt e2
    | 3, _ => va_eqt e3
    | k + 4, h => absurd h (by omega)) hA
  exact ⟨g0, va_Zref (hts0 _ (List.mem_of_getElem? (i := 468) (by decide +kernel))) (hts0 _ (List.mem_of_getElem? (i := 100) (by decide +kernel))) h1 hA, ztf7, h2, fun _ _ => rfl⟩
set_option maxRecDepth 20000 in
theorem zV8_law {b : Nat} {s : State} (hts0 : ∀ w ∈ lw_tbl, w.before #[Value.ref b] s = true) (hgv : (Jvm.Cond.and given_1 narrow_1).before #[Value.ref b] s = true) : zTb 8 "NinePortraits$CourtReader" "PAINTER_BOUNDS" "[I" .int 4 (fun q : Nat => s.heap.size ≤ q) s := by
  have hs := flat_of_before _ hgv
  have hA : ∀ a : Nat, a < s.heap.size → ¬ (fun q : Nat => s.heap.size ≤ q) a := fun a h => Nat.not_le.mpr h
  have ha : (Cond.arrayOf (.static "NinePortraits$CourtReader" "PAINTER_BOUNDS" "[I") .int).before #[Value.ref b] s = true := hs _ (by decide +kernel)
  have hn : (Cond.eq (.length (.static "NinePortraits$CourtReader" "PAINTER_BOUNDS" "[I")) (.int 4)).before #[Value.ref b] s = true := hs _ (by decide +kernel)
  have e0 : (Cond.eq (.elem (.static "NinePortraits$CourtReader" "PAINTER_BOUNDS" "[I") (.int 0)) (.int 9)).before #[Value.ref b] s = true := hs _ (by decide +kernel)
  have e1 : (Cond.eq (.elem (.static "NinePortraits$CourtReader" "PAINTER_BOUNDS" "[I") (.int 1)) (.int 30)).before #[Value.ref b] s = true := hs _ (by decide +kernel)
  have e2 : (Cond.eq (.elem (.static "NinePortraits$CourtReader" "PAINTER_BOUNDS" "[I") (.int 2)) (.int 9)).before #[Value.ref b] s = true := hs _ (by decide +kernel)
  have e3 : (Cond.eq (.elem (.static "NinePortraits$CourtReader" "PAINTER_BOUNDS" "[I") (.int 3)) (.int 3)).before #[Value.ref b] s = true := hs _ (by decide +kernel)
  obtain ⟨g0, h1, h2⟩ := va_Tof (tm := .static "NinePortraits$CourtReader" "PAINTER_BOUNDS" "[I") (ty := .int) (N := 4) (f := fun j => .int (ztf8 j)) (by decide) ha (va_eqt hn) (fun j hj => match j, hj with
    | 0, _ => va_eqt e0
    | 1, _ => va_eqt e1
    | 2, _ => va_eqt e2
    | 3, _ => va_eqt e3
    | k + 4, h => absurd h (by omega)) hA
  exact ⟨g0, va_Zref (hts0 _ (List.mem_of_getElem? (i := 470) (by decide +kernel))) (hts0 _ (List.mem_of_getElem? (i := 100) (by decide +kernel))) h1 hA, ztf8, h2, fun _ _ => rfl⟩
set_option maxRecDepth 20000 in
theorem zV9_law {b : Nat} {s : State} (hts0 : ∀ w ∈ lw_tbl, w.before #[Value.ref b] s = true) (hgv : (Jvm.Cond.and given_1 narrow_1).before #[Value.ref b] s = true) : zTb 9 "NinePortraits$CourtReader" "PAINTER_DEFAULTS" "[I" .int 4 (fun q : Nat => s.heap.size ≤ q) s := by
  have hs := flat_of_before _ hgv
  have hA : ∀ a : Nat, a < s.heap.size → ¬ (fun q : Nat => s.heap.size ≤ q) a := fun a h => Nat.not_le.mpr h
  have ha : (Cond.arrayOf (.static "NinePortraits$CourtReader" "PAINTER_DEFAULTS" "[I") .int).before #[Value.ref b] s = true := hs _ (by decide +kernel)
  have hn : (Cond.eq (.length (.static "NinePortraits$CourtReader" "PAINTER_DEFAULTS" "[I")) (.int 4)).before #[Value.ref b] s = true := hs _ (by decide +kernel)
  have e0 : (Cond.eq (.elem (.static "NinePortraits$CourtReader" "PAINTER_DEFAULTS" "[I") (.int 0)) (.int 5)).before #[Value.ref b] s = true := hs _ (by decide +kernel)
  have e1 : (Cond.eq (.elem (.static "NinePortraits$CourtReader" "PAINTER_DEFAULTS" "[I") (.int 1)) (.int 5)).before #[Value.ref b] s = true := hs _ (by decide +kernel)
  have e2 : (Cond.eq (.elem (.static "NinePortraits$CourtReader" "PAINTER_DEFAULTS" "[I") (.int 2)) (.int 3)).before #[Value.ref b] s = true := hs _ (by decide +kernel)
  have e3 : (Cond.eq (.elem (.static "NinePortraits$CourtReader" "PAINTER_DEFAULTS" "[I") (.int 3)) (.int 0)).before #[Value.ref b] s = true := hs _ (by decide +kernel)
  obtain ⟨g0, h1, h2⟩ := va_Tof (tm := .static "NinePortraits$CourtReader" "PAINTER_DEFAULTS" "[I") (ty := .int) (N := 4) (f := fun j => .int (ztf9 j)) (by decide) ha (va_eqt hn) (fun j hj => match j, hj with
    | 0, _ => va_eqt e0
    | 1, _ => va_eqt e1
    | 2, _ => va_eqt e2
    | 3, _ => va_eqt e3
    | k + 4, h => absurd h (by omega)) hA
  exact ⟨g0, va_Zref (hts0 _ (List.mem_of_getElem? (i := 466) (by decide +kernel))) (hts0 _ (List.mem_of_getElem? (i := 100) (by decide +kernel))) h1 hA, ztf9, h2, fun _ _ => rfl⟩
set_option maxRecDepth 20000 in
theorem zV_law {b : Nat} {s : State} (hts0 : ∀ w ∈ lw_tbl, w.before #[Value.ref b] s = true) (hgv : (Jvm.Cond.and given_1 narrow_1).before #[Value.ref b] s = true) : zV (fun q : Nat => s.heap.size ≤ q) s :=
  ⟨va_Nw.of rfl (hts0 _ (List.mem_of_getElem? (i := 824) (by decide +kernel))), va_Nw.of rfl (hts0 _ (List.mem_of_getElem? (i := 452) (by decide +kernel))), zV0_law hts0 hgv, zV1_law hts0 hgv, zV2_law hts0 hgv, zV3_law hts0 hgv, zV4_law hts0 hgv, zV5_law hts0 hgv, zV6_law hts0 hgv, zV7_law hts0 hgv, zV8_law hts0 hgv, zV9_law hts0 hgv⟩
theorem zPo_z : zPo (fun _ => 0) := fun i => by show (0 ≤ (0 : Int32).toInt ∧ (0 : Int32).toInt ≤ 5) ∧ (0 ≤ (0 : Int32).toInt ∧ (0 : Int32).toInt ≤ 4) ∧ 0 ≤ (0 : Int32).toInt ∧ (0 : Int32).toInt ≤ 9; decide
theorem zRw_z : zRw (fun _ => 0) := fun i => by show (0 ≤ (0 : Int32).toInt ∧ (0 : Int32).toInt ≤ 20) ∧ -1 ≤ (0 : Int32).toInt ∧ (0 : Int32).toInt ≤ 5; decide
theorem zSt_z : zSt (fun _ => 0) := fun j h => absurd (show (0 : Int32) &&& 255 = 2 from h) (by decide)
theorem zBr_z {f : Nat → Int32} : zBr 0 f := fun i hi => by rw [show (0 : Int32).toInt = 0 from by decide] at hi; omega
theorem zAs_z : zAs (fun _ => 0) := fun j _ => by show 0 ≤ (0 : Int32).toInt ∧ (0 : Int32).toInt ≤ 31; decide
theorem zHo_z : zHo (fun _ => 0) := fun j _ => by show -1 ≤ (0 : Int32).toInt ∧ (0 : Int32).toInt ≤ 5; decide
theorem zAl_z {f g h k q : Nat → Int32} : zAl 0 (fun _ => 0) f g h k q := ⟨fun j h => absurd (show (0 : Int32).toInt = 1 from h) (by decide), fun n hn => by rw [show (0 : Int32).toInt = 0 from by decide] at hn; omega⟩
theorem zTy_0 : zTy 0 (fun _ => 0) := fun j hj => by rw [show (0 : Int32).toInt = 0 from by decide] at hj; omega
def zS0 : zS := ((fun _ => 0), (fun _ => 0), (0, 0, -1), (0, 0, 0), fun _ => 0)
def zSy0 : zSy := ((sB (fun _ => 0) 0, 0), 0, 0, (0, 0, (fun _ => 0), (fun _ => 0), fun _ => 0), (-1, fun _ => (sB (fun _ => 0) 0, 0)), (zS0, [], fun _ => 0), (0, zS0))
theorem zHo1_0 : zHo1 zSy0.2.2.2.2.1 = none := if_pos (by decide)
theorem zN00 {i : Nat} : ¬ (i : Int) < (0 : Int32).toInt := by rw [show (0 : Int32).toInt = 0 from by decide]; omega
theorem zN04 {i : Nat} : ¬ (i : Int) < 4 * (0 : Int32).toInt := by rw [show (0 : Int32).toInt = 0 from by decide]; omega
theorem zSc_0 {Y F P : Nat → Int32} : zSc (0 : Int32).toInt (0 : Int32).toInt zS0 Y F P 0 0 0 (-1) 0 0 := ⟨fun i hi => absurd hi zN00, fun i hi => absurd hi zN00, rfl, rfl, fun i hi => absurd hi zN04⟩
theorem zSr_0 : zSr (0 : Int32).toInt (0 : Int32).toInt zS0 (fun _ => 0) := ⟨fun i hi => absurd hi zN00, fun i hi => absurd hi zN00, by decide, rfl, fun i hi => absurd hi zN04⟩
theorem zTc_0 {Y F P W : Nat → Int32} {pl : Int32} : zTc (0 : Int32).toInt (0 : Int32).toInt zSy0.2.2.2.2.2.1 Y F P 0 0 0 (-1) 0 0 W pl 0 (fun _ => 0) := ⟨zSc_0, zKc_0, fun _ _ => rfl⟩
theorem zTr_0 {f : Nat → Int32} : zTr (0 : Int32).toInt (0 : Int32).toInt zSy0.2.2.2.2.2.1 (fun _ => 0) f 0 (fun _ => 0) := ⟨zSr_0, zKr_0, fun _ _ => rfl⟩
theorem zIc_0 {Y F P : Nat → Int32} {a b c d e g : Int32} : zIc (0 : Int32).toInt (0 : Int32).toInt zSy0.2.2.2.2.2.2 0 Y F P a b c d e g := ⟨rfl, Or.inl (by decide)⟩
theorem zIr_0 {N : Nat → Int32} : zIr (0 : Int32).toInt (0 : Int32).toInt zSy0.2.2.2.2.2.2 0 N := ⟨rfl, Or.inl (by decide)⟩
theorem zOkG_0 : zOkG zSy0 := by
  have n0 : (0 : Int32).toInt = 0 := by decide
  have n1 : (-1 : Int32).toInt = -1 := by decide
  refine ⟨⟨⟨⟨⟨fun j hj => ?_, fun j hj => ?_, fun j hj => ?_⟩, Or.inl n0⟩, (show 0 ≤ (0 : Int32).toInt ∧ (0 : Int32).toInt ≤ 6 by omega), (show 0 ≤ (0 : Int32).toInt ∧ (0 : Int32).toInt ≤ 5 by omega), ⟨fun i hi => absurd hi zN00, fun i hi => absurd hi zN00, (show -1 ≤ (-1 : Int32).toInt ∧ (-1 : Int32).toInt < (0 : Int32).toInt by omega), (show 0 ≤ (0 : Int32).toInt ∧ (0 : Int32).toInt ≤ 999 by omega), (show 0 ≤ (0 : Int32).toInt ∧ (0 : Int32).toInt ≤ 20 by omega), fun i hi => absurd hi zN00⟩, trivial, fun K hK => absurd hK (by simp [zSy0])⟩, Or.inl n0⟩, (show -1 ≤ (-1 : Int32).toInt ∧ (-1 : Int32).toInt < (0 : Int32).toInt by omega)⟩
  · show 0 ≤ (0 : Int32).toInt ∧ (0 : Int32).toInt ≤ hRu j
    unfold hRu
    by_cases q : j = 0
    · rw [if_pos q]; decide
    · rw [if_neg q]; decide
  · exact absurd (show (j : Int) < 4 * (0 : Int32).toInt from hj) zN04
  · exact absurd (show (j : Int) < 4 * (0 : Int32).toInt from hj) zN04
theorem zGt_0 : zGt (fun _ => 0) 0 zSy0.1 := ⟨rfl, rfl, zTy_0⟩
theorem zGc_0 : zGc 0 0 (fun _ => 0) (fun _ => 0) (fun _ => 0) zSy0.2.2.2.1 := ⟨rfl, rfl, fun _ _ => rfl, fun _ _ => rfl, fun _ _ => rfl⟩
theorem zPl_z {cI : ClassId} {pl : va_W} {g : Nat → Option Nat} {ts : Nat → (Int → Int) × Int} : zPl cI pl 0 g ts := fun j hj => by rw [show (0 : Int32).toInt = 0 from by decide] at hj; omega
