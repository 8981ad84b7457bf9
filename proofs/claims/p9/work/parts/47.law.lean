/-! THE CLAIM OUT OF ONE WALK OF THE LAW'S BODY. Your part is whole_start (and what it stands on); all else here is the same for every law, but numbers. -/
def R_law : String := "NinePortraitsLaw"
def lw_P (b : Addr) (xs : List Int32) (args : Array Value) (s : State) : Prop := args = #[.ref b] ∧ s.IntsAt b xs ∧ xs.length ≤ 3584 ∧ (Jvm.Cond.and given_1 narrow_1).before args s = true
def lw_Q (_ : Array Value) (s : State) (o : Outcome) (t : State) : Prop := o = .returned (some (.int 1)) ∧ Framed s o t [] 601024 7293034
def lw_Z (below : List Frame) (a : Array Value) (s : State) : State → Prop := fun t => ∃ o, t.status = .running ∧ Ended t below o ∧ lw_Q a s o t
/-- the law's own end, with 1 on the stack, nothing written that was there before, its room as the claim has it -/
theorem lw_ret {p : Program} {l : Launch} {e : Env} {s : State} {m : MethodId} {below : List Frame} {meth : Method} {c : Code} {b : Nat} (hx : p.tables.exec = Jvm.exec) (hb : c.code = code) (hr : meth.sig.returnType = ret) (hlocks : meth.locks = false) {pc : Nat} {H : Heap} {ls : Array Slot} (hdg : decode code pc = .ok (.ireturn, 1)) : W p l e room_1 s m #[Value.ref b] below meth c H [] 601024 7293034 (lw_Z below #[Value.ref b] s) (F0 m pc ls [.int 1]) := by
  intro T hT X
  obtain ⟨fs, hret, hrun, hended, hW, hframe⟩ := X.leave (v := some (.int 1)) (hlocks := hlocks) (fun h => by rw [hr] at h; cases h)
  have hmeth' : T.vm.method? m = some meth := X.method'
  refine ⟨T.setFrames fs, ?_, .returned (some (.int 1)), hrun, hended, rfl, ⟨_, rfl⟩, hW, hframe⟩
  jvm_step X.here [X.here.top, hx, hb, hdg, hmeth', hr, ret, narrow_b1]
  (try refine ⟨rfl, ?_⟩); (try refine ⟨rfl, ?_⟩)
  first | (intro acts; rw [hret _ acts rfl rfl rfl]) | rw [hret _ _ rfl rfl rfl]
  exact Steps.refl _
/-- what holds at the law's entry: the machine, the code, the tables' words (any of lw_tbl by 'hts w (by decide +kernel)'), the script of L ints xs at the cell b, what the Statement gives of the start (any of its parts by flat_of_before) -/
def lw_At (p : Program) (s : State) (m : MethodId) (meth : Method) (c : Code) (b L : Nat) (xs : Nat → Int32) : Prop :=
  p.tables.exec = Jvm.exec ∧ c.code = code ∧ meth.sig.returnType = ret ∧ c.maxLocals = 7 ∧ s.vm.findClass R_law = some m.cls ∧ (∀ w ∈ lw_tbl, w.before #[Value.ref b] s = true) ∧ va_X b L xs s s.heap ∧ b < s.heap.size ∧ meth.locks = false ∧ (Jvm.Cond.and given_1 narrow_1).before #[Value.ref b] s = true
theorem zarr {s : State} {args : Array Value} {ty : FieldType} (hne : ∀ C, ty ≠ .object C) (h : (Cond.arrayClass ty).before args s = true) : ∃ cA : ClassId, ArrOfT s cA ty ∧ va_RA s cA ty := by
  obtain ⟨cA, kA, comp, h1, h2, h3⟩ := Cond.arrayClass_spec h
  refine ⟨cA, fun n z => ⟨fun k h => (by cases h), kA, h2, comp, h3⟩, ?_⟩
  cases ty <;> first | exact h1 | exact absurd rfl (hne _)
theorem zarrQ {s : State} {args : Array Value} {C : String} (h : (Cond.arrayOver (.object C)).before args s = true) : ∃ cA : ClassId, ArrOfT s cA (.object C) ∧ va_RA s cA (.object C) := by
  obtain ⟨comp, c, k, h1, h2, h3, h4, h5⟩ := Cond.arrayOver_spec h
  exact ⟨c, fun N z => ⟨(fun k h => by cases h), k, h3, comp, h4⟩, k, comp, h3, h4, h1, h5⟩
set_option maxRecDepth 20000 in
theorem zE_law {b : Nat} {s : State} (hts0 : ∀ w ∈ lw_tbl, w.before #[Value.ref b] s = true) : zE s :=
  ⟨va_Nw.of rfl (hts0 _ (List.mem_of_getElem? (i := 128) (by decide +kernel))), va_Nw.of rfl (hts0 _ (List.mem_of_getElem? (i := 150) (by decide +kernel))), va_Nw.of rfl (hts0 _ (List.mem_of_getElem? (i := 166) (by decide +kernel))), va_Nw.of rfl (hts0 _ (List.mem_of_getElem? (i := 182) (by decide +kernel))), va_Nw.of rfl (hts0 _ (List.mem_of_getElem? (i := 216) (by decide +kernel))), va_Nw.of rfl (hts0 _ (List.mem_of_getElem? (i := 264) (by decide +kernel))), va_Nw.of rfl (hts0 _ (List.mem_of_getElem? (i := 348) (by decide +kernel))), va_AO.of (hts0 _ (List.mem_of_getElem? (i := 213) (by decide +kernel)))⟩
set_option maxRecDepth 20000 in
theorem zCa_law {b : Nat} {s : State} (hts0 : ∀ w ∈ lw_tbl, w.before #[Value.ref b] s = true) : zCa s := va_Nw.of rfl (hts0 _ (List.mem_of_getElem? (i := 566) (by decide +kernel)))
set_option maxRecDepth 20000 in
theorem zG_law {b : Nat} {s : State} (hts0 : ∀ w ∈ lw_tbl, w.before #[Value.ref b] s = true) (hgv : (Jvm.Cond.and given_1 narrow_1).before #[Value.ref b] s = true) : zG (fun q : Nat => s.heap.size ≤ q) s := by
  have hs := flat_of_before _ hgv
  have hA : ∀ a : Nat, a < s.heap.size → ¬ (fun q : Nat => s.heap.size ≤ q) a := fun a h => Nat.not_le.mpr h
  have r1 : (Cond.isRef (.static Bundle.tN "UNASSIGNED_STACK" Bundle.steD)).before #[Value.ref b] s = true := hs _ (by decide +kernel)
  have r2 : (Cond.isRef (.static Bundle.tN "SUPPRESSED_SENTINEL" Bundle.listD)).before #[Value.ref b] s = true := hs _ (by decide +kernel)
  exact ⟨⟨va_Nw.of rfl (hts0 _ (List.mem_of_getElem? (i := 1062) (by decide +kernel))), va_Nw.of rfl (hts0 _ (List.mem_of_getElem? (i := 1064) (by decide +kernel))), va_Nw.of rfl (hts0 _ (List.mem_of_getElem? (i := 1066) (by decide +kernel))), va_Nw.of rfl (hts0 _ (List.mem_of_getElem? (i := 1061) (by decide +kernel)))⟩, vx_Zqof (hts0 _ (List.mem_of_getElem? (i := 1086) (by decide +kernel))) (hts0 _ (List.mem_of_getElem? (i := 113) (by decide +kernel))) r1 hA, vx_Zqof (hts0 _ (List.mem_of_getElem? (i := 1088) (by decide +kernel))) (hts0 _ (List.mem_of_getElem? (i := 113) (by decide +kernel))) r2 hA⟩
set_option maxRecDepth 20000 in
theorem zV0_law {b : Nat} {s : State} (hts0 : ∀ w ∈ lw_tbl, w.before #[Value.ref b] s = true) (hgv : (Jvm.Cond.and given_1 narrow_1).before #[Value.ref b] s = true) : zTb 0 "NinePortraits$LawReader" "LETTERS" "[C" .char 6 (fun q : Nat => s.heap.size ≤ q) s := by
  have hs := flat_of_before _ hgv
  have hA : ∀ a : Nat, a < s.heap.size → ¬ (fun q : Nat => s.heap.size ≤ q) a := fun a h => Nat.not_le.mpr h
  have ha : (Cond.arrayOf (.static "NinePortraits$LawReader" "LETTERS" "[C") .char).before #[Value.ref b] s = true := hs _ (by decide +kernel)
  have hn : (Cond.eq (.length (.static "NinePortraits$LawReader" "LETTERS" "[C")) (.int 6)).before #[Value.ref b] s = true := hs _ (by decide +kernel)
  have e0 : (Cond.eq (.elem (.static "NinePortraits$LawReader" "LETTERS" "[C") (.int 0)) (.int 102)).before #[Value.ref b] s = true := hs _ (by decide +kernel)
  have e1 : (Cond.eq (.elem (.static "NinePortraits$LawReader" "LETTERS" "[C") (.int 1)) (.int 119)).before #[Value.ref b] s = true := hs _ (by decide +kernel)
  have e2 : (Cond.eq (.elem (.static "NinePortraits$LawReader" "LETTERS" "[C") (.int 2)) (.int 121)).before #[Value.ref b] s = true := hs _ (by decide +kernel)
  have e3 : (Cond.eq (.elem (.static "NinePortraits$LawReader" "LETTERS" "[C") (.int 3)) (.int 115)).before #[Value.ref b] s = true := hs _ (by decide +kernel)
  have e4 : (Cond.eq (.elem (.static "NinePortraits$LawReader" "LETTERS" "[C") (.int 4)) (.int 97)).before #[Value.ref b] s = true := hs _ (by decide +kernel)
  have e5 : (Cond.eq (.elem (.static "NinePortraits$LawReader" "LETTERS" "[C") (.int 5)) (.int 109)).before #[Value.ref b] s = true := hs _ (by decide +kernel)
  obtain ⟨g0, h1, h2⟩ := va_Tof (tm := .static "NinePortraits$LawReader" "LETTERS" "[C") (ty := .char) (N := 6) (f := fun j => .int (ztf0 j)) (by decide) ha (va_eqt hn) (fun j hj => match j, hj with
    | 0, _ => va_eqt e0
    | 1, _ => va_eqt e1
    | 2, _ => va_eqt e2
    | 3, _ => va_eqt e3
    | 4, _ => va_eqt e4
    | 5, _ => va_eqt e5
    | k + 6, h => absurd h (by omega)) hA
  exact ⟨g0, va_Zref (hts0 _ (List.mem_of_getElem? (i := 495) (by decide +kernel))) (hts0 _ (List.mem_of_getElem? (i := 101) (by decide +kernel))) h1 hA, ztf0, h2, fun _ _ => rfl⟩
set_option maxRecDepth 20000 in
theorem zV1_law {b : Nat} {s : State} (hts0 : ∀ w ∈ lw_tbl, w.before #[Value.ref b] s = true) (hgv : (Jvm.Cond.and given_1 narrow_1).before #[Value.ref b] s = true) : zTb 1 "NinePortraits$CourtReader" "RULE_LETTERS" "[C" .char 3 (fun q : Nat => s.heap.size ≤ q) s := by
  have hs := flat_of_before _ hgv
  have hA : ∀ a : Nat, a < s.heap.size → ¬ (fun q : Nat => s.heap.size ≤ q) a := fun a h => Nat.not_le.mpr h
  have ha : (Cond.arrayOf (.static "NinePortraits$CourtReader" "RULE_LETTERS" "[C") .char).before #[Value.ref b] s = true := hs _ (by decide +kernel)
  have hn : (Cond.eq (.length (.static "NinePortraits$CourtReader" "RULE_LETTERS" "[C")) (.int 3)).before #[Value.ref b] s = true := hs _ (by decide +kernel)
  have e0 : (Cond.eq (.elem (.static "NinePortraits$CourtReader" "RULE_LETTERS" "[C") (.int 0)) (.int 112)).before #[Value.ref b] s = true := hs _ (by decide +kernel)
  have e1 : (Cond.eq (.elem (.static "NinePortraits$CourtReader" "RULE_LETTERS" "[C") (.int 1)) (.int 102)).before #[Value.ref b] s = true := hs _ (by decide +kernel)
  have e2 : (Cond.eq (.elem (.static "NinePortraits$CourtReader" "RULE_LETTERS" "[C") (.int 2)) (.int 100)).before #[Value.ref b] s = true := hs _ (by decide +kernel)
  obtain ⟨g0, h1, h2⟩ := va_Tof (tm := .static "NinePortraits$CourtReader" "RULE_LETTERS" "[C") (ty := .char) (N := 3) (f := fun j => .int (ztf1 j)) (by decide) ha (va_eqt hn) (fun j hj => match j, hj with
    | 0, _ => va_eqt e0
    | 1, _ => va_eqt e1
    | 2, _ => va_eqt e2
    | k + 3, h => absurd h (by omega)) hA
  exact ⟨g0, va_Zref (hts0 _ (List.mem_of_getElem? (i := 442) (by decide +kernel))) (hts0 _ (List.mem_of_getElem? (i := 100) (by decide +kernel))) h1 hA, ztf1, h2, fun _ _ => rfl⟩
set_option maxRecDepth 20000 in
theorem zV2_law {b : Nat} {s : State} (hts0 : ∀ w ∈ lw_tbl, w.before #[Value.ref b] s = true) (hgv : (Jvm.Cond.and given_1 narrow_1).before #[Value.ref b] s = true) : zTb 2 "NinePortraits$CourtReader" "RULE_BOUNDS" "[I" .int 3 (fun q : Nat => s.heap.size ≤ q) s := by
  have hs := flat_of_before _ hgv
  have hA : ∀ a : Nat, a < s.heap.size → ¬ (fun q : Nat => s.heap.size ≤ q) a := fun a h => Nat.not_le.mpr h
  have ha : (Cond.arrayOf (.static "NinePortraits$CourtReader" "RULE_BOUNDS" "[I") .int).before #[Value.ref b] s = true := hs _ (by decide +kernel)
  have hn : (Cond.eq (.length (.static "NinePortraits$CourtReader" "RULE_BOUNDS" "[I")) (.int 3)).before #[Value.ref b] s = true := hs _ (by decide +kernel)
  have e0 : (Cond.eq (.elem (.static "NinePortraits$CourtReader" "RULE_BOUNDS" "[I") (.int 0)) (.int 99)).before #[Value.ref b] s = true := hs _ (by decide +kernel)
  have e1 : (Cond.eq (.elem (.static "NinePortraits$CourtReader" "RULE_BOUNDS" "[I") (.int 1)) (.int 9)).before #[Value.ref b] s = true := hs _ (by decide +kernel)
  have e2 : (Cond.eq (.elem (.static "NinePortraits$CourtReader" "RULE_BOUNDS" "[I") (.int 2)) (.int 9)).before #[Value.ref b] s = true := hs _ (by decide +kernel)
  obtain ⟨g0, h1, h2⟩ := va_Tof (tm := .static "NinePortraits$CourtReader" "RULE_BOUNDS" "[I") (ty := .int) (N := 3) (f := fun j => .int (ztf2 j)) (by decide) ha (va_eqt hn) (fun j hj => match j, hj with
    | 0, _ => va_eqt e0
    | 1, _ => va_eqt e1
    | 2, _ => va_eqt e2
    | k + 3, h => absurd h (by omega)) hA
  exact ⟨g0, va_Zref (hts0 _ (List.mem_of_getElem? (i := 444) (by decide +kernel))) (hts0 _ (List.mem_of_getElem? (i := 100) (by decide +kernel))) h1 hA, ztf2, h2, fun _ _ => rfl⟩
set_option maxRecDepth 20000 in
theorem zV3_law {b : Nat} {s : State} (hts0 : ∀ w ∈ lw_tbl, w.before #[Value.ref b] s = true) (hgv : (Jvm.Cond.and given_1 narrow_1).before #[Value.ref b] s = true) : zTb 3 "NinePortraits$CourtReader" "RULE_DEFAULTS" "[I" .int 3 (fun q : Nat => s.heap.size ≤ q) s := by
  have hs := flat_of_before _ hgv
  have hA : ∀ a : Nat, a < s.heap.size → ¬ (fun q : Nat => s.heap.size ≤ q) a := fun a h => Nat.not_le.mpr h
  have ha : (Cond.arrayOf (.static "NinePortraits$CourtReader" "RULE_DEFAULTS" "[I") .int).before #[Value.ref b] s = true := hs _ (by decide +kernel)
  have hn : (Cond.eq (.length (.static "NinePortraits$CourtReader" "RULE_DEFAULTS" "[I")) (.int 3)).before #[Value.ref b] s = true := hs _ (by decide +kernel)
  have e0 : (Cond.eq (.elem (.static "NinePortraits$CourtReader" "RULE_DEFAULTS" "[I") (.int 0)) (.int 40)).before #[Value.ref b] s = true := hs _ (by decide +kernel)
  have e1 : (Cond.eq (.elem (.static "NinePortraits$CourtReader" "RULE_DEFAULTS" "[I") (.int 1)) (.int 5)).before #[Value.ref b] s = true := hs _ (by decide +kernel)
  have e2 : (Cond.eq (.elem (.static "NinePortraits$CourtReader" "RULE_DEFAULTS" "[I") (.int 2)) (.int 3)).before #[Value.ref b] s = true := hs _ (by decide +kernel)
  obtain ⟨g0, h1, h2⟩ := va_Tof (tm := .static "NinePortraits$CourtReader" "RULE_DEFAULTS" "[I") (ty := .int) (N := 3) (f := fun j => .int (ztf3 j)) (by decide) ha (va_eqt hn) (fun j hj => match j, hj with
    | 0, _ => va_eqt e0
    | 1, _ => va_eqt e1
    | 2, _ => va_eqt e2
    | k + 3, h => absurd h (by omega)) hA
  exact ⟨g0, va_Zref (hts0 _ (List.mem_of_getElem? (i := 429) (by decide +kernel))) (hts0 _ (List.mem_of_getElem? (i := 100) (by decide +kernel))) h1 hA, ztf3, h2, fun _ _ => rfl⟩
set_option maxRecDepth 20000 in
theorem zV4_law {b : Nat} {s : State} (hts0 : ∀ w ∈ lw_tbl, w.before #[Value.ref b] s = true) (hgv : (Jvm.Cond.and given_1 narrow_1).before #[Value.ref b] s = true) : zTb 4 "NinePortraits$CourtReader" "BRIDE_LETTERS" "[C" .char 4 (fun q : Nat => s.heap.size ≤ q) s := by
  have hs := flat_of_before _ hgv
  have hA : ∀ a : Nat, a < s.heap.size → ¬ (fun q : Nat => s.heap.size ≤ q) a := fun a h => Nat.not_le.mpr h
  have ha : (Cond.arrayOf (.static "NinePortraits$CourtReader" "BRIDE_LETTERS" "[C") .char).before #[Value.ref b] s = true := hs _ (by decide +kernel)
  have hn : (Cond.eq (.length (.static "NinePortraits$CourtReader" "BRIDE_LETTERS" "[C")) (.int 4)).before #[Value.ref b] s = true := hs _ (by decide +kernel)
  have e0 : (Cond.eq (.elem (.static "NinePortraits$CourtReader" "BRIDE_LETTERS" "[C") (.int 0)) (.int 102)).before #[Value.ref b] s = true := hs _ (by decide +kernel)
  have e1 : (Cond.eq (.elem (.static "NinePortraits$CourtReader" "BRIDE_LETTERS" "[C") (.int 1)) (.int 100)).before #[Value.ref b] s = true := hs _ (by decide +kernel)
  have e2 : (Cond.eq (.elem (.static "NinePortraits$CourtReader" "BRIDE_LETTERS" "[C") (.int 2)) (.int 119)).before #[Value.ref b] s = true := hs _ (by decide +kernel)
  have e3 : (Cond.eq (.elem (.static "NinePortraits$CourtReader" "BRIDE_LETTERS" "[C") (.int 3)) (.int 121)).before #[Value.ref b] s = true := hs _ (by decide +kernel)
  obtain ⟨g0, h1, h2⟩ := va_Tof (tm := .static "NinePortraits$CourtReader" "BRIDE_LETTERS" "[C") (ty := .char) (N := 4) (f := fun j => .int (ztf4 j)) (by decide) ha (va_eqt hn) (fun j hj => match j, hj with
    | 0, _ => va_eqt e0
    | 1, _ => va_eqt e1
    | 2, _ => va_eqt e2
    | 3, _ => va_eqt e3
    | k + 4, h => absurd h (by omega)) hA
  exact ⟨g0, va_Zref (hts0 _ (List.mem_of_getElem? (i := 462) (by decide +kernel))) (hts0 _ (List.mem_of_getElem? (i := 100) (by decide +kernel))) h1 hA, ztf4, h2, fun _ _ => rfl⟩
set_option maxRecDepth 20000 in
theorem zV5_law {b : Nat} {s : State} (hts0 : ∀ w ∈ lw_tbl, w.before #[Value.ref b] s = true) (hgv : (Jvm.Cond.and given_1 narrow_1).before #[Value.ref b] s = true) : zTb 5 "NinePortraits$CourtReader" "BRIDE_BOUNDS" "[I" .int 4 (fun q : Nat => s.heap.size ≤ q) s := by
  have hs := flat_of_before _ hgv
  have hA : ∀ a : Nat, a < s.heap.size → ¬ (fun q : Nat => s.heap.size ≤ q) a := fun a h => Nat.not_le.mpr h
  have ha : (Cond.arrayOf (.static "NinePortraits$CourtReader" "BRIDE_BOUNDS" "[I") .int).before #[Value.ref b] s = true := hs _ (by decide +kernel)
  have hn : (Cond.eq (.length (.static "NinePortraits$CourtReader" "BRIDE_BOUNDS" "[I")) (.int 4)).before #[Value.ref b] s = true := hs _ (by decide +kernel)
  have e0 : (Cond.eq (.elem (.static "NinePortraits$CourtReader" "BRIDE_BOUNDS" "[I") (.int 0)) (.int 9)).before #[Value.ref b] s = true := hs _ (by decide +kernel)
  have e1 : (Cond.eq (.elem (.static "NinePortraits$CourtReader" "BRIDE_BOUNDS" "[I") (.int 1)) (.int 99)).before #[Value.ref b] s = true := hs _ (by decide +kernel)
  have e2 : (Cond.eq (.elem (.static "NinePortraits$CourtReader" "BRIDE_BOUNDS" "[I") (.int 2)) (.int 9)).before #[Value.ref b] s = true := hs _ (by decide +kernel)
  have e3 : (Cond.eq (.elem (.static "NinePortraits$CourtReader" "BRIDE_BOUNDS" "[I") (.int 3)) (.int 9)).before #[Value.ref b] s = true := hs _ (by decide +kernel)
  obtain ⟨g0, h1, h2⟩ := va_Tof (tm := .static "NinePortraits$CourtReader" "BRIDE_BOUNDS" "[I") (ty := .int) (N := 4) (f := fun j => .int (ztf5 j)) (by decide) ha (va_eqt hn) (fun j hj => match j, hj with
    | 0, _ => va_eqt e0
    | 1, _ => va_eqt e1
    | 2, _ => va_eqt e2
    | 3, _ => va_eqt e3
    | k + 4, h => absurd h (by omega)) hA
  exact ⟨g0, va_Zref (hts0 _ (List.mem_of_getElem? (i := 464) (by decide +kernel))) (hts0 _ (List.mem_of_getElem? (i := 100) (by decide +kernel))) h1 hA, ztf5, h2, fun _ _ => rfl⟩
set_option maxRecDepth 20000 in
theorem zV6_law {b : Nat} {s : State} (hts0 : ∀ w ∈ lw_tbl, w.before #[Value.ref b] s = true) (hgv : (Jvm.Cond.and given_1 narrow_1).before #[Value.ref b] s = true) : zTb 6 "NinePortraits$CourtReader" "BRIDE_DEFAULTS" "[I" .int 4 (fun q : Nat => s.heap.size ≤ q) s := by
  have hs := flat_of_before _ hgv
  have hA : ∀ a : Nat, a < s.heap.size → ¬ (fun q : Nat => s.heap.size ≤ q) a := fun a h => Nat.not_le.mpr h
  have ha : (Cond.arrayOf (.static "NinePortraits$CourtReader" "BRIDE_DEFAULTS" "[I") .int).before #[Value.ref b] s = true := hs _ (by decide +kernel)
  have hn : (Cond.eq (.length (.static "NinePortraits$CourtReader" "BRIDE_DEFAULTS" "[I")) (.int 4)).before #[Value.ref b] s = true := hs _ (by decide +kernel)
  have e0 : (Cond.eq (.elem (.static "NinePortraits$CourtReader" "BRIDE_DEFAULTS" "[I") (.int 0)) (.int 5)).before #[Value.ref b] s = true := hs _ (by decide +kernel)
  have e1 : (Cond.eq (.elem (.static "NinePortraits$CourtReader" "BRIDE_DEFAULTS" "[I") (.int 1)) (.int 20)).before #[Value.ref b] s = true := hs _ (by decide +kernel)
  have e2 : (Cond.eq (.elem (.static "NinePortraits$CourtReader" "BRIDE_DEFAULTS" "[I") (.int 2)) (.int 1)).before #[Value.ref b] s = true := hs _ (by decide +kernel)
  have e3 : (Cond.eq (.elem (.static "NinePortraits$CourtReader" "BRIDE_DEFAULTS" "[I") (.int 3)) (.int 2)).before #[Value.ref b] s = true := hs _ (by decide +kernel)
  obtain ⟨g0, h1, h2⟩ := va_Tof (tm := .static "NinePortraits$CourtReader" "BRIDE_DEFAULTS" "[I") (ty := .int) (N := 4) (f := fun j => .int (ztf6 j)) (by decide) ha (va_eqt hn) (fun j hj => match j, hj with
    | 0, _ => va_eqt e0
    | 1, _ => va_eqt e1
    | 2, _ => va_eqt e2
    | 3, _ => va_eqt e3
    | k + 4, h => absurd h (by omega)) hA
  exact ⟨g0, va_Zref (hts0 _ (List.mem_of_getElem? (i := 460) (by decide +kernel))) (hts0 _ (List.mem_of_getElem? (i := 100) (by decide +kernel))) h1 hA, ztf6, h2, fun _ _ => rfl⟩
set_option maxRecDepth 20000 in
theorem zV7_law {b : Nat} {s : State} (hts0 : ∀ w ∈ lw_tbl, w.before #[Value.ref b] s = true) (hgv : (Jvm.Cond.and given_1 narrow_1).before #[Value.ref b] s = true) : zTb 7 "NinePortraits$CourtReader" "PAINTER_LETTERS" "[C" .char 4 (fun q : Nat => s.heap.size ≤ q) s := by
  have hs := flat_of_before _ hgv
  have hA : ∀ a : Nat, a < s.heap.size → ¬ (fun q : Nat => s.heap.size ≤ q) a := fun a h => Nat.not_le.mpr h
  have ha : (Cond.arrayOf (.static "NinePortraits$CourtReader" "PAINTER_LETTERS" "[C") .char).before #[Value.ref b] s = true := hs _ (by decide +kernel)
  have hn : (Cond.eq (.length (.static "NinePortraits$CourtReader" "PAINTER_LETTERS" "[C")) (.int 4)).before #[Value.ref b] s = true := hs _ (by decide +kernel)
  have e0 : (Cond.eq (.elem (.static "NinePortraits$CourtReader" "PAINTER_LETTERS" "[C") (.int 0)) (.int 115)).before #[Value.ref b] s = true := hs _ (by decide +kernel)
  have e1 : (Cond.eq (.elem (.static "NinePortraits$CourtReader" "PAINTER_LETTERS" "[C") (.int 1)) (.int 102)).before #[Value.ref b] s = true := hs _ (by decide +kernel)
  have e2 : (Cond.eq (.elem (.static "NinePortraits$CourtReader" "PAINTER_LETTERS" "[C") (.int 2)) (.int 97)).before #[Value.ref b] s = true := hs _ (by decide +kernel)
  have e3 : (Cond.eq (.elem (.static "NinePortraits$CourtReader" "PAINTER_LETTERS" "[C") (.int 3)) (.int 107)).before #[Value.ref b] s = true := hs _ (by decide +kernel)
  obtain ⟨g0, h1, h2⟩ := va_Tof (tm := .static "NinePortraits$CourtReader" "PAINTER_LETTERS" "[C") (ty := .char) (N := 4) (f := fun j => .int (ztf7 j)) (by decide) ha (va_eqt hn) (fun j hj => match j, hj with
    | 0, _ => va_eqt e0
    | 1, _ => va_eqt e1
    | 2, _ => va_eqt e2
    | 3, _ => va_eqt e3
    | k + 4, h => absurd h (by omega)) hA
  exact ⟨g0, va_Zref (hts0 _ (List.mem_of_getElem? (i := 468) (by decide +kernel))) (hts0 _ (List.mem_of_getElem? (i := 100) (by decide +kernel))) h1 hA, ztf7, h2, fun _ _ => rfl⟩
set_option maxRecDepth 20000 in
theorem zV8_law {b : Nat} {s : State} (hts0 : ∀ w ∈ lw_tbl, w.before #[Value.ref b] s = true) (hgv : (Jvm.Cond.and given_1 narrow_1).before #[Value.ref b] s = true) : zTb 8 "NinePortraits$CourtReader" "PAINTER_BOUNDS" "[I" .int 4 (fun q : Nat => s.heap.size ≤ q) s := by
  have hs := flat_of_before _ hgv
  have hA : ∀ a : Nat, a < s.heap.size → ¬ (fun q : Nat => s.heap.size ≤ q) a := fun a h => Nat.not_le.mpr h
  have ha : (Cond.arrayOf (.static "NinePortraits$CourtReader" "PAINTER_BOUNDS" "[I") .int).before #[Value.ref b] s = true := hs _ (by decide +kernel)
  have hn : (Cond.eq (.length (.static "NinePortraits$CourtReader" "PAINTER_BOUNDS" "[I")) (.int 4)).before #[Value.ref b] s = true := hs _ (by decide +kernel)
  have e0 : (Cond.eq (.elem (.static "NinePortraits$CourtReader" "PAINTER_BOUNDS" "[I") (.int 0)) (.int 9)).before #[Value.ref b] s = true := hs _ (by decide +kernel)
  have e1 : (Cond.eq (.elem (.static "NinePortraits$CourtReader" "PAINTER_BOUNDS" "[I") (.int 1)) (.int 30)).before #[Value.ref b] s = true := hs _ (by decide +kernel)
  have e2 : (Cond.eq (.elem (.static "NinePortraits$CourtReader" "PAINTER_BOUNDS" "[I") (.int 2)) (.int 9)).before #[Value.ref b] s = true := hs _ (by decide +kernel)
  have e3 : (Cond.eq (.elem (.static "NinePortraits$CourtReader" "PAINTER_BOUNDS" "[I") (.int 3)) (.int 3)).before #[Value.ref b] s = true := hs _ (by decide +kernel)
  obtain ⟨g0, h1, h2⟩ := va_Tof (tm := .static "NinePortraits$CourtReader" "PAINTER_BOUNDS" "[I") (ty := .int) (N := 4) (f := fun j => .int (ztf8 j)) (by decide) ha (va_eqt hn) (fun j hj => match j, hj with
    | 0, _ => va_eqt e0
    | 1, _ => va_eqt e1
    | 2, _ => va_eqt e2
    | 3, _ => va_eqt e3
    | k + 4, h => absurd h (by omega)) hA
  exact ⟨g0, va_Zref (hts0 _ (List.mem_of_getElem? (i := 470) (by decide +kernel))) (hts0 _ (List.mem_of_getElem? (i := 100) (by decide +kernel))) h1 hA, ztf8, h2, fun _ _ => rfl⟩
set_option maxRecDepth 20000 in
theorem zV9_law {b : Nat} {s : State} (hts0 : ∀ w ∈ lw_tbl, w.before #[Value.ref b] s = true) (hgv : (Jvm.Cond.and given_1 narrow_1).before #[Value.ref b] s = true) : zTb 9 "NinePortraits$CourtReader" "PAINTER_DEFAULTS" "[I" .int 4 (fun q : Nat => s.heap.size ≤ q) s := by
  have hs := flat_of_before _ hgv
  have hA : ∀ a : Nat, a < s.heap.size → ¬ (fun q : Nat => s.heap.size ≤ q) a := fun a h => Nat.not_le.mpr h
  have ha : (Cond.arrayOf (.static "NinePortraits$CourtReader" "PAINTER_DEFAULTS" "[I") .int).before #[Value.ref b] s = true := hs _ (by decide +kernel)
  have hn : (Cond.eq (.length (.static "NinePortraits$CourtReader" "PAINTER_DEFAULTS" "[I")) (.int 4)).before #[Value.ref b] s = true := hs _ (by decide +kernel)
  have e0 : (Cond.eq (.elem (.static "NinePortraits$CourtReader" "PAINTER_DEFAULTS" "[I") (.int 0)) (.int 5)).before #[Value.ref b] s = true := hs _ (by decide +kernel)
  have e1 : (Cond.eq (.elem (.static "NinePortraits$CourtReader" "PAINTER_DEFAULTS" "[I") (.int 1)) (.int 5)).before #[Value.ref b] s = true := hs _ (by decide +kernel)
  have e2 : (Cond.eq (.elem (.static "NinePortraits$CourtReader" "PAINTER_DEFAULTS" "[I") (.int 2)) (.int 3)).before #[Value.ref b] s = true := hs _ (by decide +kernel)
  have e3 : (Cond.eq (.elem (.static "NinePortraits$CourtReader" "PAINTER_DEFAULTS" "[I") (.int 3)) (.int 0)).before #[Value.ref b] s = true := hs _ (by decide +kernel)
  obtain ⟨g0, h1, h2⟩ := va_Tof (tm := .static "NinePortraits$CourtReader" "PAINTER_DEFAULTS" "[I") (ty := .int) (N := 4) (f := fun j => .int (ztf9 j)) (by decide) ha (va_eqt hn) (fun j hj => match j, hj with
    | 0, _ => va_eqt e0
    | 1, _ => va_eqt e1
    | 2, _ => va_eqt e2
    | 3, _ => va_eqt e3
    | k + 4, h => absurd h (by omega)) hA
  exact ⟨g0, va_Zref (hts0 _ (List.mem_of_getElem? (i := 466) (by decide +kernel))) (hts0 _ (List.mem_of_getElem? (i := 100) (by decide +kernel))) h1 hA, ztf9, h2, fun _ _ => rfl⟩
set_option maxRecDepth 20000 in
theorem zV_law {b : Nat} {s : State} (hts0 : ∀ w ∈ lw_tbl, w.before #[Value.ref b] s = true) (hgv : (Jvm.Cond.and given_1 narrow_1).before #[Value.ref b] s = true) : zV (fun q : Nat => s.heap.size ≤ q) s :=
  ⟨va_Nw.of rfl (hts0 _ (List.mem_of_getElem? (i := 824) (by decide +kernel))), va_Nw.of rfl (hts0 _ (List.mem_of_getElem? (i := 452) (by decide +kernel))), zV0_law hts0 hgv, zV1_law hts0 hgv, zV2_law hts0 hgv, zV3_law hts0 hgv, zV4_law hts0 hgv, zV5_law hts0 hgv, zV6_law hts0 hgv, zV7_law hts0 hgv, zV8_law hts0 hgv, zV9_law hts0 hgv⟩
theorem zPo_z : zPo (fun _ => 0) := fun i => by show (0 ≤ (0 : Int32).toInt ∧ (0 : Int32).toInt ≤ 5) ∧ (0 ≤ (0 : Int32).toInt ∧ (0 : Int32).toInt ≤ 4) ∧ 0 ≤ (0 : Int32).toInt ∧ (0 : Int32).toInt ≤ 9; decide
theorem zRw_z : zRw (fun _ => 0) := fun i => by show (0 ≤ (0 : Int32).toInt ∧ (0 : Int32).toInt ≤ 20) ∧ -1 ≤ (0 : Int32).toInt ∧ (0 : Int32).toInt ≤ 5; decide
theorem zSt_z : zSt (fun _ => 0) := fun j h => absurd (show (0 : Int32) &&& 255 = 2 from h) (by decide)
theorem zBr_z {f : Nat → Int32} : zBr 0 f := fun i hi => by rw [show (0 : Int32).toInt = 0 from by decide] at hi; omega
theorem zAs_z : zAs (fun _ => 0) := fun j _ => by show 0 ≤ (0 : Int32).toInt ∧ (0 : Int32).toInt ≤ 31; decide
theorem zHo_z : zHo (fun _ => 0) := fun j _ => by show -1 ≤ (0 : Int32).toInt ∧ (0 : Int32).toInt ≤ 5; decide
theorem zAl_z {f g h k q : Nat → Int32} : zAl 0 (fun _ => 0) f g h k q := ⟨fun j h => absurd (show (0 : Int32).toInt = 1 from h) (by decide), fun n hn => by rw [show (0 : Int32).toInt = 0 from by decide] at hn; omega⟩
theorem zTy_0 : zTy 0 (fun _ => 0) := fun j hj => by rw [show (0 : Int32).toInt = 0 from by decide] at hj; omega
def zS0 : zS := ((fun _ => 0), (fun _ => 0), (0, 0, -1), (0, 0, 0), fun _ => 0)
def zSy0 : zSy := ((sB (fun _ => 0) 0, 0), 0, 0, (0, 0, (fun _ => 0), (fun _ => 0), fun _ => 0), (-1, fun _ => (sB (fun _ => 0) 0, 0)), (zS0, [], fun _ => 0), (0, zS0))
theorem zHo1_0 : zHo1 zSy0.2.2.2.2.1 = none := if_pos (by decide)
theorem zN00 {i : Nat} : ¬ (i : Int) < (0 : Int32).toInt := by rw [show (0 : Int32).toInt = 0 from by decide]; omega
theorem zN04 {i : Nat} : ¬ (i : Int) < 4 * (0 : Int32).toInt := by rw [show (0 : Int32).toInt = 0 from by decide]; omega
theorem zSc_0 {Y F P : Nat → Int32} : zSc (0 : Int32).toInt (0 : Int32).toInt zS0 Y F P 0 0 0 (-1) 0 0 := ⟨fun i hi => absurd hi zN00, fun i hi => absurd hi zN00, rfl, rfl, fun i hi => absurd hi zN04⟩
theorem zSr_0 : zSr (0 : Int32).toInt (0 : Int32).toInt zS0 (fun _ => 0) := ⟨fun i hi => absurd hi zN00, fun i hi => absurd hi zN00, by decide, rfl, fun i hi => absurd hi zN04⟩
theorem zTc_0 {Y F P W : Nat → Int32} {pl : Int32} : zTc (0 : Int32).toInt (0 : Int32).toInt zSy0.2.2.2.2.2.1 Y F P 0 0 0 (-1) 0 0 W pl 0 (fun _ => 0) := ⟨zSc_0, zKc_0, fun _ _ => rfl⟩
theorem zTr_0 {f : Nat → Int32} : zTr (0 : Int32).toInt (0 : Int32).toInt zSy0.2.2.2.2.2.1 (fun _ => 0) f 0 (fun _ => 0) := ⟨zSr_0, zKr_0, fun _ _ => rfl⟩
theorem zIc_0 {Y F P : Nat → Int32} {a b c d e g : Int32} : zIc (0 : Int32).toInt (0 : Int32).toInt zSy0.2.2.2.2.2.2 0 Y F P a b c d e g := ⟨rfl, Or.inl (by decide)⟩
theorem zIr_0 {N : Nat → Int32} : zIr (0 : Int32).toInt (0 : Int32).toInt zSy0.2.2.2.2.2.2 0 N := ⟨rfl, Or.inl (by decide)⟩
theorem zOkG_0 : zOkG zSy0 := by
  have n0 : (0 : Int32).toInt = 0 := by decide
  have n1 : (-1 : Int32).toInt = -1 := by decide
  refine ⟨⟨⟨⟨⟨fun j hj => ?_, fun j hj => ?_, fun j hj => ?_⟩, Or.inl n0⟩, (show 0 ≤ (0 : Int32).toInt ∧ (0 : Int32).toInt ≤ 6 by omega), (show 0 ≤ (0 : Int32).toInt ∧ (0 : Int32).toInt ≤ 5 by omega), ⟨fun i hi => absurd hi zN00, fun i hi => absurd hi zN00, (show -1 ≤ (-1 : Int32).toInt ∧ (-1 : Int32).toInt < (0 : Int32).toInt by omega), (show 0 ≤ (0 : Int32).toInt ∧ (0 : Int32).toInt ≤ 999 by omega), (show 0 ≤ (0 : Int32).toInt ∧ (0 : Int32).toInt ≤ 20 by omega), fun i hi => absurd hi zN00⟩, trivial, fun K hK => absurd hK (by simp [zSy0])⟩, Or.inl n0⟩, (show -1 ≤ (-1 : Int32).toInt ∧ (-1 : Int32).toInt < (0 : Int32).toInt by omega)⟩
  · show 0 ≤ (0 : Int32).toInt ∧ (0 : Int32).toInt ≤ hRu j
    unfold hRu
    by_cases q : j = 0
    · rw [if_pos q]; decide
    · rw [if_neg q]; decide
  · exact absurd (show (j : Int) < 4 * (0 : Int32).toInt from hj) zN04
  · exact absurd (show (j : Int) < 4 * (0 : Int32).toInt from hj) zN04
theorem zGt_0 : zGt (fun _ => 0) 0 zSy0.1 := ⟨rfl, rfl, zTy_0⟩
theorem zGc_0 : zGc 0 0 (fun _ => 0) (fun _ => 0) (fun _ => 0) zSy0.2.2.2.1 := ⟨rfl, rfl, fun _ _ => rfl, fun _ _ => rfl, fun _ _ => rfl⟩
theorem zPl_z {cI : ClassId} {pl : va_W} {g : Nat → Option Nat} {ts : Nat → (Int → Int) × Int} : zPl cI pl 0 g ts := fun j hj => by rw [show (0 : Int32).toInt = 0 from by decide] at hj; omega
set_option maxHeartbeats 4000000 in
set_option maxRecDepth 100000 in
theorem law_case_0 {p : Program} {l : Launch} {e : Env} {s : State} {m : MethodId} {below : List Frame} {meth : Method} {c : Code} {b L : Nat} {xs : Nat → Int32} {dC : Nat → ClassId} {dI : Nat → Nat → Nat} {cI cJ cQ : ClassId} {x0 m0 o0 : Nat} (hl0 : l.stackTraces = false) (C0 : lw_At p s m meth c b L xs) (hK3 : va_K (dC, dI) vwCl [(cI, .int), (cJ, .long), (cQ, .object "NinePortraits$Law")] s) (hV : zV (fun q : Nat => s.heap.size ≤ q) s) (hG : zG (fun q : Nat => s.heap.size ≤ q) s) (hCa : zCa s) (hL : L ≤ 3584) {sg : zSy} {C Rr : va_W} {fo : Nat → Int64} {i : Int32} {H : Heap} {locs : List Loc} {ls : Array Slot} {k n : Nat} (hO : zOkG sg) (hC : zCi cI cJ cQ x0 sg C) (hR : zRi cI m0 sg Rr) (hP : va_P (dC, dI) vwCl (C ++ ((o0, .inl (cJ, 1, .inr (.inl fo))) :: Rr)) H) (hD : va_D (fun q : Nat => s.heap.size ≤ q) (C ++ ((o0, .inl (cJ, 1, .inr (.inl fo))) :: Rr))) (hS : va_S (fun q : Nat => s.heap.size ≤ q) s.heap H locs) (hl : lv_has ls 7 [(0, .ref b), (1, .ref x0), (2, .ref m0), (3, .ref o0), (4, .int i)]) (hi0 : 0 ≤ i.toInt) (hiL : i.toInt + 7 ≤ (L : Int)) (hk : k + 3 ≤ 601024) (hn : n + 300 ≤ 7293034) (J : ∀ (sg : zSy) (C Rr : va_W) (fo : Nat → Int64) (H : Heap) (locs : List Loc) (ls : Array Slot), zOkG sg → zCi cI cJ cQ x0 sg C → zRi cI m0 sg Rr → va_P (dC, dI) vwCl (C ++ ((o0, .inl (cJ, 1, .inr (.inl fo))) :: Rr)) H → va_D (fun q : Nat => s.heap.size ≤ q) (C ++ ((o0, .inl (cJ, 1, .inr (.inl fo))) :: Rr)) → va_S (fun q : Nat => s.heap.size ≤ q) s.heap H locs → lv_has ls 7 [(0, .ref b), (1, .ref x0), (2, .ref m0), (3, .ref o0), (4, .int i)] → W p l e room_1 s m #[Value.ref b] below meth c H locs (k + 3) (n + 300) (lw_Z below #[Value.ref b] s) (F0 m 1797 ls [])) : W p l e room_1 s m #[Value.ref b] below meth c H locs k n (lw_Z below #[Value.ref b] s) (F0 m 248 ls []) := by
  obtain ⟨hx, hb, hr, hml, hown, hts0, hX, hbl, hlocks, hgv⟩ := id C0
  have hts : ∀ w ∈ wA, w.before #[Value.ref b] s = true := fun w h => hts0 w (List.mem_filter.mp h).1
  have hown : s.vm.findClass RL = some m.cls := hown
  have hcf : CallFix p m c code 7 s #[Value.ref b] wA RL := ⟨hx, hb, hml, hown, hts⟩
  have hbA : ¬ (fun q : Nat => s.heap.size ≤ q) b := Nat.not_le.mpr hbl
  refine lv_aload_n hx hb dL_law_248 rfl (lv_at hl 1 rfl) ?_
  refine lv_aload_n hx hb dL_law_249 rfl (lv_at hl 0 rfl) ?_
  refine lv_iload hx hb dL_law_250 (lv_at hl 4 rfl) ?_
  refine lv_iconst (v := 1) hx hb dL_law_252 (by decide) ?_
  refine lv_iadd hx hb dL_law_253 ?_
  refine lv_topi (fun v253 e253 => ?_)
  have i253 : v253.toInt = i.toInt + 1 := zadd e253 rfl (by decide) (by omega) (by omega)
  refine va_sld hx hb hX hbl hbA hS (vp_in_iff.mpr ⟨by omega, by omega⟩) dL_law_254 ?_
  refine lv_topi (fun v254 e254 => ?_)
  refine lv_aload_n hx hb dL_law_255 rfl (lv_at hl 0 rfl) ?_
  refine lv_iload hx hb dL_law_256 (lv_at hl 4 rfl) ?_
  refine lv_iconst (v := 2) hx hb dL_law_258 (by decide) ?_
  refine lv_iadd hx hb dL_law_259 ?_
  refine lv_topi (fun v259 e259 => ?_)
  have i259 : v259.toInt = i.toInt + 2 := zadd e259 rfl (by decide) (by omega) (by omega)
  refine va_sld hx hb hX hbl hbA hS (vp_in_iff.mpr ⟨by omega, by omega⟩) dL_law_260 ?_
  refine lv_topi (fun v260 e260 => ?_)
  refine lv_aload_n hx hb dL_law_261 rfl (lv_at hl 0 rfl) ?_
  refine lv_iload hx hb dL_law_262 (lv_at hl 4 rfl) ?_
  refine lv_iconst (v := 3) hx hb dL_law_264 (by decide) ?_
  refine lv_iadd hx hb dL_law_265 ?_
  refine lv_topi (fun v265 e265 => ?_)
  have i265 : v265.toInt = i.toInt + 3 := zadd e265 rfl (by decide) (by omega) (by omega)
  refine va_sld hx hb hX hbl hbA hS (vp_in_iff.mpr ⟨by omega, by omega⟩) dL_law_266 ?_
  refine lv_topi (fun v266 e266 => ?_)
  refine lv_aload_n hx hb dL_law_267 rfl (lv_at hl 0 rfl) ?_
  refine lv_iload hx hb dL_law_268 (lv_at hl 4 rfl) ?_
  refine lv_iconst (v := 4) hx hb dL_law_270 (by decide) ?_
  refine lv_iadd hx hb dL_law_271 ?_
  refine lv_topi (fun v271 e271 => ?_)
  have i271 : v271.toInt = i.toInt + 4 := zadd e271 rfl (by decide) (by omega) (by omega)
  refine va_sld hx hb hX hbl hbA hS (vp_in_iff.mpr ⟨by omega, by omega⟩) dL_law_272 ?_
  refine lv_topi (fun v272 e272 => ?_)
  refine lv_aload_n hx hb dL_law_273 rfl (lv_at hl 0 rfl) ?_
  refine lv_iload hx hb dL_law_274 (lv_at hl 4 rfl) ?_
  refine lv_iconst (v := 5) hx hb dL_law_276 (by decide) ?_
  refine lv_iadd hx hb dL_law_277 ?_
  refine lv_topi (fun v277 e277 => ?_)
  have i277 : v277.toInt = i.toInt + 5 := zadd e277 rfl (by decide) (by omega) (by omega)
  refine va_sld hx hb hX hbl hbA hS (vp_in_iff.mpr ⟨by omega, by omega⟩) dL_law_278 ?_
  refine lv_topi (fun v278 e278 => ?_)
  refine k_X10_feed (rest := []) hcf hK3 hV hC hO hP hD hS (fun _ h => h) hl.1 (Nat.le_of_ble_eq_true rfl) (by show k + 0 ≤ 601024; omega) (by show n + 0 ≤ 7293034; omega) dL_law_279 (fun v279 C H locs hv1 hC hP hD hS => ?_)
  refine lv_pop hx hb dL_law_282 rfl ?_
  refine lv_aload_n hx hb dL_law_283 rfl (lv_at hl 2 rfl) ?_
  refine lv_aload_n hx hb dL_law_284 rfl (lv_at hl 0 rfl) ?_
  refine lv_iload hx hb dL_law_285 (lv_at hl 4 rfl) ?_
  refine lv_iconst (v := 1) hx hb dL_law_287 (by decide) ?_
  refine lv_iadd hx hb dL_law_288 ?_
  refine lv_topi (fun v288 e288 => ?_)
  have i288 : v288.toInt = i.toInt + 1 := zadd e288 rfl (by decide) (by omega) (by omega)
  refine va_sld hx hb hX hbl hbA hS (vp_in_iff.mpr ⟨by omega, by omega⟩) dL_law_289 ?_
  refine lv_topi (fun v289 e289 => ?_)
  refine lv_aload_n hx hb dL_law_290 rfl (lv_at hl 0 rfl) ?_
  refine lv_iload hx hb dL_law_291 (lv_at hl 4 rfl) ?_
  refine lv_iconst (v := 2) hx hb dL_law_293 (by decide) ?_
  refine lv_iadd hx hb dL_law_294 ?_
  refine lv_topi (fun v294 e294 => ?_)
  have i294 : v294.toInt = i.toInt + 2 := zadd e294 rfl (by decide) (by omega) (by omega)
  refine va_sld hx hb hX hbl hbA hS (vp_in_iff.mpr ⟨by omega, by omega⟩) dL_law_295 ?_
  refine lv_topi (fun v295 e295 => ?_)
  refine lv_aload_n hx hb dL_law_296 rfl (lv_at hl 0 rfl) ?_
  refine lv_iload hx hb dL_law_297 (lv_at hl 4 rfl) ?_
  refine lv_iconst (v := 3) hx hb dL_law_299 (by decide) ?_
  refine lv_iadd hx hb dL_law_300 ?_
  refine lv_topi (fun v300 e300 => ?_)
  have i300 : v300.toInt = i.toInt + 3 := zadd e300 rfl (by decide) (by omega) (by omega)
  refine va_sld hx hb hX hbl hbA hS (vp_in_iff.mpr ⟨by omega, by omega⟩) dL_law_301 ?_
  refine lv_topi (fun v301 e301 => ?_)
  refine lv_aload_n hx hb dL_law_302 rfl (lv_at hl 0 rfl) ?_
  refine lv_iload hx hb dL_law_303 (lv_at hl 4 rfl) ?_
  refine lv_iconst (v := 4) hx hb dL_law_305 (by decide) ?_
  refine lv_iadd hx hb dL_law_306 ?_
  refine lv_topi (fun v306 e306 => ?_)
  have i306 : v306.toInt = i.toInt + 4 := zadd e306 rfl (by decide) (by omega) (by omega)
  refine va_sld hx hb hX hbl hbA hS (vp_in_iff.mpr ⟨by omega, by omega⟩) dL_law_307 ?_
  refine lv_topi (fun v307 e307 => ?_)
  refine lv_aload_n hx hb dL_law_308 rfl (lv_at hl 0 rfl) ?_
  refine lv_iload hx hb dL_law_309 (lv_at hl 4 rfl) ?_
  refine lv_iconst (v := 5) hx hb dL_law_311 (by decide) ?_
  refine lv_iadd hx hb dL_law_312 ?_
  refine lv_topi (fun v312 e312 => ?_)
  have i312 : v312.toInt = i.toInt + 5 := zadd e312 rfl (by decide) (by omega) (by omega)
  refine va_sld hx hb hX hbl hbA hS (vp_in_iff.mpr ⟨by omega, by omega⟩) dL_law_313 ?_
  refine lv_topi (fun v313 e313 => ?_)
  have hP := zRotP hP
  have hD := zRotD hD
  refine k_X11_feed (rest := []) hcf hK3 hV hR hO hP hD hS (fun _ h => h) hl.1 (Nat.le_of_ble_eq_true rfl) (by show k + 0 ≤ 601024; omega) (by show n + 0 ≤ 7293034; omega) dL_law_314 (fun v314 Rr H locs hv2 hR hP hD hS => ?_)
  have hP := zRotP' hP
  have hD := zRotD' hD
  have ev0 : v289 = v254 := by rw [e289, e254, e288, e253]
  rw [ev0] at hv2 hR
  have ev1 : v295 = v260 := by rw [e295, e260, e294, e259]
  rw [ev1] at hv2 hR
  have ev2 : v301 = v266 := by rw [e301, e266, e300, e265]
  rw [ev2] at hv2 hR
  have ev3 : v307 = v272 := by rw [e307, e272, e306, e271]
  rw [ev3] at hv2 hR
  have ev4 : v313 = v278 := by rw [e313, e278, e312, e277]
  rw [ev4] at hv2 hR
  have er : v279.toInt = v314.toInt := hv1.trans hv2.symm
  have hO : zOkG (sT_feed sg.1 v254 v260 v266 v272 v278, sg.2.1, sg.2.2.1, sg.2.2.2.1, sg.2.2.2.2.1, sg.2.2.2.2.2.1, sg.2.2.2.2.2.2) := ⟨hO.1, hO.2⟩
  refine lv_pop hx hb dL_law_317 rfl ?_
  refine lv_goto (tgt := 1797) hx hb dL_law_318 (by decide) ?_
  refine W.widen (k := k + 3) (n := n + 300) (by omega) (by omega) ?_
  exact J _ C Rr fo H locs ls hO hC hR hP hD hS (lv_sub hl [0, 1, 2, 3, 4] rfl)
set_option maxHeartbeats 4000000 in
set_option maxRecDepth 100000 in
theorem law_case_1 {p : Program} {l : Launch} {e : Env} {s : State} {m : MethodId} {below : List Frame} {meth : Method} {c : Code} {b L : Nat} {xs : Nat → Int32} {dC : Nat → ClassId} {dI : Nat → Nat → Nat} {cI cJ cQ : ClassId} {x0 m0 o0 : Nat} (hl0 : l.stackTraces = false) (C0 : lw_At p s m meth c b L xs) (hK3 : va_K (dC, dI) vwCl [(cI, .int), (cJ, .long), (cQ, .object "NinePortraits$Law")] s) (hV : zV (fun q : Nat => s.heap.size ≤ q) s) (hG : zG (fun q : Nat => s.heap.size ≤ q) s) (hCa : zCa s) (hL : L ≤ 3584) {sg : zSy} {C Rr : va_W} {fo : Nat → Int64} {i : Int32} {H : Heap} {locs : List Loc} {ls : Array Slot} {k n : Nat} (hO : zOkG sg) (hC : zCi cI cJ cQ x0 sg C) (hR : zRi cI m0 sg Rr) (hP : va_P (dC, dI) vwCl (C ++ ((o0, .inl (cJ, 1, .inr (.inl fo))) :: Rr)) H) (hD : va_D (fun q : Nat => s.heap.size ≤ q) (C ++ ((o0, .inl (cJ, 1, .inr (.inl fo))) :: Rr))) (hS : va_S (fun q : Nat => s.heap.size ≤ q) s.heap H locs) (hl : lv_has ls 7 [(0, .ref b), (1, .ref x0), (2, .ref m0), (3, .ref o0), (4, .int i)]) (hi0 : 0 ≤ i.toInt) (hiL : i.toInt + 7 ≤ (L : Int)) (hk : k + 3 ≤ 601024) (hn : n + 300 ≤ 7293034) (J : ∀ (sg : zSy) (C Rr : va_W) (fo : Nat → Int64) (H : Heap) (locs : List Loc) (ls : Array Slot), zOkG sg → zCi cI cJ cQ x0 sg C → zRi cI m0 sg Rr → va_P (dC, dI) vwCl (C ++ ((o0, .inl (cJ, 1, .inr (.inl fo))) :: Rr)) H → va_D (fun q : Nat => s.heap.size ≤ q) (C ++ ((o0, .inl (cJ, 1, .inr (.inl fo))) :: Rr)) → va_S (fun q : Nat => s.heap.size ≤ q) s.heap H locs → lv_has ls 7 [(0, .ref b), (1, .ref x0), (2, .ref m0), (3, .ref o0), (4, .int i)] → W p l e room_1 s m #[Value.ref b] below meth c H locs (k + 3) (n + 300) (lw_Z below #[Value.ref b] s) (F0 m 1797 ls [])) : W p l e room_1 s m #[Value.ref b] below meth c H locs k n (lw_Z below #[Value.ref b] s) (F0 m 321 ls []) := by
  obtain ⟨hx, hb, hr, hml, hown, hts0, hX, hbl, hlocks, hgv⟩ := id C0
  have hts : ∀ w ∈ wA, w.before #[Value.ref b] s = true := fun w h => hts0 w (List.mem_filter.mp h).1
  have hown : s.vm.findClass RL = some m.cls := hown
  have hcf : CallFix p m c code 7 s #[Value.ref b] wA RL := ⟨hx, hb, hml, hown, hts⟩
  have hbA : ¬ (fun q : Nat => s.heap.size ≤ q) b := Nat.not_le.mpr hbl
  refine lv_aload_n hx hb dL_law_321 rfl (lv_at hl 1 rfl) ?_
  refine lv_aload_n hx hb dL_law_322 rfl (lv_at hl 0 rfl) ?_
  refine lv_iload hx hb dL_law_323 (lv_at hl 4 rfl) ?_
  refine lv_iconst (v := 1) hx hb dL_law_325 (by decide) ?_
  refine lv_iadd hx hb dL_law_326 ?_
  refine lv_topi (fun v326 e326 => ?_)
  have i326 : v326.toInt = i.toInt + 1 := zadd e326 rfl (by decide) (by omega) (by omega)
  refine va_sld hx hb hX hbl hbA hS (vp_in_iff.mpr ⟨by omega, by omega⟩) dL_law_327 ?_
  refine lv_topi (fun v327 e327 => ?_)
  refine k_X10_end (rest := []) hcf hK3 hV hC hO hP hD hS (fun _ h => h) hl.1 (Nat.le_of_ble_eq_true rfl) (by show k + 0 ≤ 601024; omega) (by show n + 0 ≤ 7293034; omega) dL_law_328 (fun v328 C H locs hv1 hC hP hD hS => ?_)
  refine lv_pop hx hb dL_law_331 rfl ?_
  refine lv_aload_n hx hb dL_law_332 rfl (lv_at hl 2 rfl) ?_
  refine lv_aload_n hx hb dL_law_333 rfl (lv_at hl 0 rfl) ?_
  refine lv_iload hx hb dL_law_334 (lv_at hl 4 rfl) ?_
  refine lv_iconst (v := 1) hx hb dL_law_336 (by decide) ?_
  refine lv_iadd hx hb dL_law_337 ?_
  refine lv_topi (fun v337 e337 => ?_)
  have i337 : v337.toInt = i.toInt + 1 := zadd e337 rfl (by decide) (by omega) (by omega)
  refine va_sld hx hb hX hbl hbA hS (vp_in_iff.mpr ⟨by omega, by omega⟩) dL_law_338 ?_
  refine lv_topi (fun v338 e338 => ?_)
  have hP := zRotP hP
  have hD := zRotD hD
  refine k_X11_end (rest := []) hcf hK3 hV hR hO hP hD hS (fun _ h => h) hl.1 (Nat.le_of_ble_eq_true rfl) (by show k + 0 ≤ 601024; omega) (by show n + 0 ≤ 7293034; omega) dL_law_339 (fun v339 Rr H locs hv2 hR hP hD hS => ?_)
  have hP := zRotP' hP
  have hD := zRotD' hD
  have ev0 : v338 = v327 := by rw [e338, e327, e337, e326]
  rw [ev0] at hv2 hR
  have er : v328.toInt = v339.toInt := hv1.trans hv2.symm
  have hO : zOkG (sT_end sg.1 v327, sg.2.1, sg.2.2.1, sg.2.2.2.1, sg.2.2.2.2.1, sg.2.2.2.2.2.1, sg.2.2.2.2.2.2) := ⟨hO.1, hO.2⟩
  refine lv_pop hx hb dL_law_342 rfl ?_
  refine lv_goto (tgt := 1797) hx hb dL_law_343 (by decide) ?_
  refine W.widen (k := k + 3) (n := n + 300) (by omega) (by omega) ?_
  exact J _ C Rr fo H locs ls hO hC hR hP hD hS (lv_sub hl [0, 1, 2, 3, 4] rfl)
set_option maxHeartbeats 4000000 in
set_option maxRecDepth 100000 in
theorem law_case_2 {p : Program} {l : Launch} {e : Env} {s : State} {m : MethodId} {below : List Frame} {meth : Method} {c : Code} {b L : Nat} {xs : Nat → Int32} {dC : Nat → ClassId} {dI : Nat → Nat → Nat} {cI cJ cQ : ClassId} {x0 m0 o0 : Nat} (hl0 : l.stackTraces = false) (C0 : lw_At p s m meth c b L xs) (hK3 : va_K (dC, dI) vwCl [(cI, .int), (cJ, .long), (cQ, .object "NinePortraits$Law")] s) (hV : zV (fun q : Nat => s.heap.size ≤ q) s) (hG : zG (fun q : Nat => s.heap.size ≤ q) s) (hCa : zCa s) (hL : L ≤ 3584) {sg : zSy} {C Rr : va_W} {fo : Nat → Int64} {i : Int32} {H : Heap} {locs : List Loc} {ls : Array Slot} {k n : Nat} (hO : zOkG sg) (hC : zCi cI cJ cQ x0 sg C) (hR : zRi cI m0 sg Rr) (hP : va_P (dC, dI) vwCl (C ++ ((o0, .inl (cJ, 1, .inr (.inl fo))) :: Rr)) H) (hD : va_D (fun q : Nat => s.heap.size ≤ q) (C ++ ((o0, .inl (cJ, 1, .inr (.inl fo))) :: Rr))) (hS : va_S (fun q : Nat => s.heap.size ≤ q) s.heap H locs) (hl : lv_has ls 7 [(0, .ref b), (1, .ref x0), (2, .ref m0), (3, .ref o0), (4, .int i)]) (hi0 : 0 ≤ i.toInt) (hiL : i.toInt + 7 ≤ (L : Int)) (hk : k + 3 ≤ 601024) (hn : n + 300 ≤ 7293034) (J : ∀ (sg : zSy) (C Rr : va_W) (fo : Nat → Int64) (H : Heap) (locs : List Loc) (ls : Array Slot), zOkG sg → zCi cI cJ cQ x0 sg C → zRi cI m0 sg Rr → va_P (dC, dI) vwCl (C ++ ((o0, .inl (cJ, 1, .inr (.inl fo))) :: Rr)) H → va_D (fun q : Nat => s.heap.size ≤ q) (C ++ ((o0, .inl (cJ, 1, .inr (.inl fo))) :: Rr)) → va_S (fun q : Nat => s.heap.size ≤ q) s.heap H locs → lv_has ls 7 [(0, .ref b), (1, .ref x0), (2, .ref m0), (3, .ref o0), (4, .int i)] → W p l e room_1 s m #[Value.ref b] below meth c H locs (k + 3) (n + 300) (lw_Z below #[Value.ref b] s) (F0 m 1797 ls [])) : W p l e room_1 s m #[Value.ref b] below meth c H locs k n (lw_Z below #[Value.ref b] s) (F0 m 346 ls []) := by
  obtain ⟨hx, hb, hr, hml, hown, hts0, hX, hbl, hlocks, hgv⟩ := id C0
  have hts : ∀ w ∈ wA, w.before #[Value.ref b] s = true := fun w h => hts0 w (List.mem_filter.mp h).1
  have hown : s.vm.findClass RL = some m.cls := hown
  have hcf : CallFix p m c code 7 s #[Value.ref b] wA RL := ⟨hx, hb, hml, hown, hts⟩
  have hbA : ¬ (fun q : Nat => s.heap.size ≤ q) b := Nat.not_le.mpr hbl
  refine lv_aload_n hx hb dL_law_346 rfl (lv_at hl 1 rfl) ?_
  refine lv_aload_n hx hb dL_law_347 rfl (lv_at hl 0 rfl) ?_
  refine lv_iload hx hb dL_law_348 (lv_at hl 4 rfl) ?_
  refine lv_iconst (v := 1) hx hb dL_law_350 (by decide) ?_
  refine lv_iadd hx hb dL_law_351 ?_
  refine lv_topi (fun v351 e351 => ?_)
  have i351 : v351.toInt = i.toInt + 1 := zadd e351 rfl (by decide) (by omega) (by omega)
  refine va_sld hx hb hX hbl hbA hS (vp_in_iff.mpr ⟨by omega, by omega⟩) dL_law_352 ?_
  refine lv_topi (fun v352 e352 => ?_)
  refine k_X10_fault (rest := []) hcf hK3 hV hC hO hP hD hS (fun _ h => h) hl.1 (Nat.le_of_ble_eq_true rfl) (by show k + 0 ≤ 601024; omega) (by show n + 0 ≤ 7293034; omega) dL_law_353 (fun v353 C H locs hv1 hC hP hD hS => ?_)
  refine lv_pop hx hb dL_law_356 rfl ?_
  refine lv_aload_n hx hb dL_law_357 rfl (lv_at hl 2 rfl) ?_
  refine lv_aload_n hx hb dL_law_358 rfl (lv_at hl 0 rfl) ?_
  refine lv_iload hx hb dL_law_359 (lv_at hl 4 rfl) ?_
  refine lv_iconst (v := 1) hx hb dL_law_361 (by decide) ?_
  refine lv_iadd hx hb dL_law_362 ?_
  refine lv_topi (fun v362 e362 => ?_)
  have i362 : v362.toInt = i.toInt + 1 := zadd e362 rfl (by decide) (by omega) (by omega)
  refine va_sld hx hb hX hbl hbA hS (vp_in_iff.mpr ⟨by omega, by omega⟩) dL_law_363 ?_
  refine lv_topi (fun v363 e363 => ?_)
  have hP := zRotP hP
  have hD := zRotD hD
  refine k_X11_fault (rest := []) hcf hK3 hV hR hO hP hD hS (fun _ h => h) hl.1 (Nat.le_of_ble_eq_true rfl) (by show k + 0 ≤ 601024; omega) (by show n + 0 ≤ 7293034; omega) dL_law_364 (fun v364 Rr H locs hv2 hR hP hD hS => ?_)
  have hP := zRotP' hP
  have hD := zRotD' hD
  have ev0 : v363 = v352 := by rw [e363, e352, e362, e351]
  rw [ev0] at hv2
  have er : v353.toInt = v364.toInt := hv1.trans hv2.symm
  refine lv_pop hx hb dL_law_367 rfl ?_
  refine lv_goto (tgt := 1797) hx hb dL_law_368 (by decide) ?_
  refine W.widen (k := k + 3) (n := n + 300) (by omega) (by omega) ?_
  exact J _ C Rr fo H locs ls hO hC hR hP hD hS (lv_sub hl [0, 1, 2, 3, 4] rfl)
set_option maxHeartbeats 4000000 in
set_option maxRecDepth 100000 in
theorem law_case_3 {p : Program} {l : Launch} {e : Env} {s : State} {m : MethodId} {below : List Frame} {meth : Method} {c : Code} {b L : Nat} {xs : Nat → Int32} {dC : Nat → ClassId} {dI : Nat → Nat → Nat} {cI cJ cQ : ClassId} {x0 m0 o0 : Nat} (hl0 : l.stackTraces = false) (C0 : lw_At p s m meth c b L xs) (hK3 : va_K (dC, dI) vwCl [(cI, .int), (cJ, .long), (cQ, .object "NinePortraits$Law")] s) (hV : zV (fun q : Nat => s.heap.size ≤ q) s) (hG : zG (fun q : Nat => s.heap.size ≤ q) s) (hCa : zCa s) (hL : L ≤ 3584) {sg : zSy} {C Rr : va_W} {fo : Nat → Int64} {i : Int32} {H : Heap} {locs : List Loc} {ls : Array Slot} {k n : Nat} (hO : zOkG sg) (hC : zCi cI cJ cQ x0 sg C) (hR : zRi cI m0 sg Rr) (hP : va_P (dC, dI) vwCl (C ++ ((o0, .inl (cJ, 1, .inr (.inl fo))) :: Rr)) H) (hD : va_D (fun q : Nat => s.heap.size ≤ q) (C ++ ((o0, .inl (cJ, 1, .inr (.inl fo))) :: Rr))) (hS : va_S (fun q : Nat => s.heap.size ≤ q) s.heap H locs) (hl : lv_has ls 7 [(0, .ref b), (1, .ref x0), (2, .ref m0), (3, .ref o0), (4, .int i)]) (hi0 : 0 ≤ i.toInt) (hiL : i.toInt + 7 ≤ (L : Int)) (hk : k + 3 ≤ 601024) (hn : n + 300 ≤ 7293034) (J : ∀ (sg : zSy) (C Rr : va_W) (fo : Nat → Int64) (H : Heap) (locs : List Loc) (ls : Array Slot), zOkG sg → zCi cI cJ cQ x0 sg C → zRi cI m0 sg Rr → va_P (dC, dI) vwCl (C ++ ((o0, .inl (cJ, 1, .inr (.inl fo))) :: Rr)) H → va_D (fun q : Nat => s.heap.size ≤ q) (C ++ ((o0, .inl (cJ, 1, .inr (.inl fo))) :: Rr)) → va_S (fun q : Nat => s.heap.size ≤ q) s.heap H locs → lv_has ls 7 [(0, .ref b), (1, .ref x0), (2, .ref m0), (3, .ref o0), (4, .int i)] → W p l e room_1 s m #[Value.ref b] below meth c H locs (k + 3) (n + 300) (lw_Z below #[Value.ref b] s) (F0 m 1797 ls [])) : W p l e room_1 s m #[Value.ref b] below meth c H locs k n (lw_Z below #[Value.ref b] s) (F0 m 371 ls []) := by
  obtain ⟨hx, hb, hr, hml, hown, hts0, hX, hbl, hlocks, hgv⟩ := id C0
  have hts : ∀ w ∈ wA, w.before #[Value.ref b] s = true := fun w h => hts0 w (List.mem_filter.mp h).1
  have hown : s.vm.findClass RL = some m.cls := hown
  have hcf : CallFix p m c code 7 s #[Value.ref b] wA RL := ⟨hx, hb, hml, hown, hts⟩
  have hbA : ¬ (fun q : Nat => s.heap.size ≤ q) b := Nat.not_le.mpr hbl
  refine lv_aload_n hx hb dL_law_371 rfl (lv_at hl 1 rfl) ?_
  refine lv_aload_n hx hb dL_law_372 rfl (lv_at hl 0 rfl) ?_
  refine lv_iload hx hb dL_law_373 (lv_at hl 4 rfl) ?_
  refine lv_iconst (v := 1) hx hb dL_law_375 (by decide) ?_
  refine lv_iadd hx hb dL_law_376 ?_
  refine lv_topi (fun v376 e376 => ?_)
  have i376 : v376.toInt = i.toInt + 1 := zadd e376 rfl (by decide) (by omega) (by omega)
  refine va_sld hx hb hX hbl hbA hS (vp_in_iff.mpr ⟨by omega, by omega⟩) dL_law_377 ?_
  refine lv_topi (fun v377 e377 => ?_)
  refine k_X10_text (rest := []) hcf hK3 hV hC hO hP hD hS (fun _ h => h) hl.1 (Nat.le_of_ble_eq_true rfl) hCa (by show k + 2 ≤ 601024; omega) (by show n + 242 ≤ 7293034; omega) dL_law_378 (fun v378 C H locs hv1 hC hP hD hS => ?_)
  refine lv_pop hx hb dL_law_381 rfl ?_
  refine lv_aload_n hx hb dL_law_382 rfl (lv_at hl 2 rfl) ?_
  refine lv_aload_n hx hb dL_law_383 rfl (lv_at hl 0 rfl) ?_
  refine lv_iload hx hb dL_law_384 (lv_at hl 4 rfl) ?_
  refine lv_iconst (v := 1) hx hb dL_law_386 (by decide) ?_
  refine lv_iadd hx hb dL_law_387 ?_
  refine lv_topi (fun v387 e387 => ?_)
  have i387 : v387.toInt = i.toInt + 1 := zadd e387 rfl (by decide) (by omega) (by omega)
  refine va_sld hx hb hX hbl hbA hS (vp_in_iff.mpr ⟨by omega, by omega⟩) dL_law_388 ?_
  refine lv_topi (fun v388 e388 => ?_)
  have hP := zRotP hP
  have hD := zRotD hD
  refine k_X11_text (rest := []) hcf hK3 hV hR hO hP hD hS (fun _ h => h) hl.1 (Nat.le_of_ble_eq_true rfl) (by show k + 2 + 0 ≤ 601024; omega) (by show n + 242 + 0 ≤ 7293034; omega) dL_law_389 (fun v389 Rr H locs hv2 hR hP hD hS => ?_)
  have hP := zRotP' hP
  have hD := zRotD' hD
  have ev0 : v388 = v377 := by rw [e388, e377, e387, e376]
  rw [ev0] at hv2 hR
  have er : v378.toInt = v389.toInt := hv1.trans hv2.symm
  have hO : zOkG (sT_text sg.1 sg.2.1 v377, sL_text sg.1 sg.2.1 v377, sg.2.2.1, sK_text sg.1 sg.2.2.2.1 v377, sH_text sg.1 sg.2.1 v377 sg.2.2.2.2.1, sTT_text sg.1 sg.2.2.2.2.2.1 v377, sI_text sg.1 sg.2.2.2.2.2.2 v377) := ⟨ok_text hO.1 (zRi_b hR), sL_text_b hO.2⟩
  refine lv_pop hx hb dL_law_392 rfl ?_
  refine lv_goto (tgt := 1797) hx hb dL_law_393 (by decide) ?_
  refine W.widen (k := k + 3) (n := n + 300) (by omega) (by omega) ?_
  exact J _ C Rr fo H locs ls hO hC hR hP hD hS (lv_sub hl [0, 1, 2, 3, 4] rfl)
set_option maxHeartbeats 4000000 in
set_option maxRecDepth 100000 in
theorem law_case_4 {p : Program} {l : Launch} {e : Env} {s : State} {m : MethodId} {below : List Frame} {meth : Method} {c : Code} {b L : Nat} {xs : Nat → Int32} {dC : Nat → ClassId} {dI : Nat → Nat → Nat} {cI cJ cQ : ClassId} {x0 m0 o0 : Nat} (hl0 : l.stackTraces = false) (C0 : lw_At p s m meth c b L xs) (hK3 : va_K (dC, dI) vwCl [(cI, .int), (cJ, .long), (cQ, .object "NinePortraits$Law")] s) (hV : zV (fun q : Nat => s.heap.size ≤ q) s) (hG : zG (fun q : Nat => s.heap.size ≤ q) s) (hCa : zCa s) (hL : L ≤ 3584) {sg : zSy} {C Rr : va_W} {fo : Nat → Int64} {i : Int32} {H : Heap} {locs : List Loc} {ls : Array Slot} {k n : Nat} (hO : zOkG sg) (hC : zCi cI cJ cQ x0 sg C) (hR : zRi cI m0 sg Rr) (hP : va_P (dC, dI) vwCl (C ++ ((o0, .inl (cJ, 1, .inr (.inl fo))) :: Rr)) H) (hD : va_D (fun q : Nat => s.heap.size ≤ q) (C ++ ((o0, .inl (cJ, 1, .inr (.inl fo))) :: Rr))) (hS : va_S (fun q : Nat => s.heap.size ≤ q) s.heap H locs) (hl : lv_has ls 7 [(0, .ref b), (1, .ref x0), (2, .ref m0), (3, .ref o0), (4, .int i)]) (hi0 : 0 ≤ i.toInt) (hiL : i.toInt + 7 ≤ (L : Int)) (hk : k + 3 ≤ 601024) (hn : n + 300 ≤ 7293034) (J : ∀ (sg : zSy) (C Rr : va_W) (fo : Nat → Int64) (H : Heap) (locs : List Loc) (ls : Array Slot), zOkG sg → zCi cI cJ cQ x0 sg C → zRi cI m0 sg Rr → va_P (dC, dI) vwCl (C ++ ((o0, .inl (cJ, 1, .inr (.inl fo))) :: Rr)) H → va_D (fun q : Nat => s.heap.size ≤ q) (C ++ ((o0, .inl (cJ, 1, .inr (.inl fo))) :: Rr)) → va_S (fun q : Nat => s.heap.size ≤ q) s.heap H locs → lv_has ls 7 [(0, .ref b), (1, .ref x0), (2, .ref m0), (3, .ref o0), (4, .int i)] → W p l e room_1 s m #[Value.ref b] below meth c H locs (k + 3) (n + 300) (lw_Z below #[Value.ref b] s) (F0 m 1797 ls [])) : W p l e room_1 s m #[Value.ref b] below meth c H locs k n (lw_Z below #[Value.ref b] s) (F0 m 396 ls []) := by
  obtain ⟨hx, hb, hr, hml, hown, hts0, hX, hbl, hlocks, hgv⟩ := id C0
  have hts : ∀ w ∈ wA, w.before #[Value.ref b] s = true := fun w h => hts0 w (List.mem_filter.mp h).1
  have hown : s.vm.findClass RL = some m.cls := hown
  have hcf : CallFix p m c code 7 s #[Value.ref b] wA RL := ⟨hx, hb, hml, hown, hts⟩
  have hbA : ¬ (fun q : Nat => s.heap.size ≤ q) b := Nat.not_le.mpr hbl
  refine lv_aload_n hx hb dL_law_396 rfl (lv_at hl 1 rfl) ?_
  refine lv_aload_n hx hb dL_law_397 rfl (lv_at hl 0 rfl) ?_
  refine lv_iload hx hb dL_law_398 (lv_at hl 4 rfl) ?_
  refine lv_iconst (v := 1) hx hb dL_law_400 (by decide) ?_
  refine lv_iadd hx hb dL_law_401 ?_
  refine lv_topi (fun v401 e401 => ?_)
  have i401 : v401.toInt = i.toInt + 1 := zadd e401 rfl (by decide) (by omega) (by omega)
  refine va_sld hx hb hX hbl hbA hS (vp_in_iff.mpr ⟨by omega, by omega⟩) dL_law_402 ?_
  refine lv_topi (fun v402 e402 => ?_)
  refine k_X10_rule (rest := []) hcf hK3 hV hC hO hP hD hS (fun _ h => h) hl.1 (Nat.le_of_ble_eq_true rfl) (by show k + 0 ≤ 601024; omega) (by show n + 0 ≤ 7293034; omega) dL_law_403 (fun v403 C H locs hv1 hC hP hD hS => ?_)
  refine lv_pop hx hb dL_law_406 rfl ?_
  refine lv_aload_n hx hb dL_law_407 rfl (lv_at hl 2 rfl) ?_
  refine lv_aload_n hx hb dL_law_408 rfl (lv_at hl 0 rfl) ?_
  refine lv_iload hx hb dL_law_409 (lv_at hl 4 rfl) ?_
  refine lv_iconst (v := 1) hx hb dL_law_411 (by decide) ?_
  refine lv_iadd hx hb dL_law_412 ?_
  refine lv_topi (fun v412 e412 => ?_)
  have i412 : v412.toInt = i.toInt + 1 := zadd e412 rfl (by decide) (by omega) (by omega)
  refine va_sld hx hb hX hbl hbA hS (vp_in_iff.mpr ⟨by omega, by omega⟩) dL_law_413 ?_
  refine lv_topi (fun v413 e413 => ?_)
  have hP := zRotP hP
  have hD := zRotD hD
  refine k_X11_rule (rest := []) hcf hK3 hV hR hO hP hD hS (fun _ h => h) hl.1 (Nat.le_of_ble_eq_true rfl) (by show k + 0 ≤ 601024; omega) (by show n + 0 ≤ 7293034; omega) dL_law_414 (fun v414 Rr H locs hv2 hR hP hD hS => ?_)
  have hP := zRotP' hP
  have hD := zRotD' hD
  have ev0 : v413 = v402 := by rw [e413, e402, e412, e401]
  rw [ev0] at hv2
  have er : v403.toInt = v414.toInt := congrArg Int32.toInt (hv1.trans hv2.symm)
  refine lv_pop hx hb dL_law_417 rfl ?_
  refine lv_goto (tgt := 1797) hx hb dL_law_418 (by decide) ?_
  refine W.widen (k := k + 3) (n := n + 300) (by omega) (by omega) ?_
  exact J _ C Rr fo H locs ls hO hC hR hP hD hS (lv_sub hl [0, 1, 2, 3, 4] rfl)
set_option maxHeartbeats 4000000 in
set_option maxRecDepth 100000 in
theorem law_case_5 {p : Program} {l : Launch} {e : Env} {s : State} {m : MethodId} {below : List Frame} {meth : Method} {c : Code} {b L : Nat} {xs : Nat → Int32} {dC : Nat → ClassId} {dI : Nat → Nat → Nat} {cI cJ cQ : ClassId} {x0 m0 o0 : Nat} (hl0 : l.stackTraces = false) (C0 : lw_At p s m meth c b L xs) (hK3 : va_K (dC, dI) vwCl [(cI, .int), (cJ, .long), (cQ, .object "NinePortraits$Law")] s) (hV : zV (fun q : Nat => s.heap.size ≤ q) s) (hG : zG (fun q : Nat => s.heap.size ≤ q) s) (hCa : zCa s) (hL : L ≤ 3584) {sg : zSy} {C Rr : va_W} {fo : Nat → Int64} {i : Int32} {H : Heap} {locs : List Loc} {ls : Array Slot} {k n : Nat} (hO : zOkG sg) (hC : zCi cI cJ cQ x0 sg C) (hR : zRi cI m0 sg Rr) (hP : va_P (dC, dI) vwCl (C ++ ((o0, .inl (cJ, 1, .inr (.inl fo))) :: Rr)) H) (hD : va_D (fun q : Nat => s.heap.size ≤ q) (C ++ ((o0, .inl (cJ, 1, .inr (.inl fo))) :: Rr))) (hS : va_S (fun q : Nat => s.heap.size ≤ q) s.heap H locs) (hl : lv_has ls 7 [(0, .ref b), (1, .ref x0), (2, .ref m0), (3, .ref o0), (4, .int i)]) (hi0 : 0 ≤ i.toInt) (hiL : i.toInt + 7 ≤ (L : Int)) (hk : k + 3 ≤ 601024) (hn : n + 300 ≤ 7293034) (J : ∀ (sg : zSy) (C Rr : va_W) (fo : Nat → Int64) (H : Heap) (locs : List Loc) (ls : Array Slot), zOkG sg → zCi cI cJ cQ x0 sg C → zRi cI m0 sg Rr → va_P (dC, dI) vwCl (C ++ ((o0, .inl (cJ, 1, .inr (.inl fo))) :: Rr)) H → va_D (fun q : Nat => s.heap.size ≤ q) (C ++ ((o0, .inl (cJ, 1, .inr (.inl fo))) :: Rr)) → va_S (fun q : Nat => s.heap.size ≤ q) s.heap H locs → lv_has ls 7 [(0, .ref b), (1, .ref x0), (2, .ref m0), (3, .ref o0), (4, .int i)] → W p l e room_1 s m #[Value.ref b] below meth c H locs (k + 3) (n + 300) (lw_Z below #[Value.ref b] s) (F0 m 1797 ls [])) : W p l e room_1 s m #[Value.ref b] below meth c H locs k n (lw_Z below #[Value.ref b] s) (F0 m 421 ls []) := by
  obtain ⟨hx, hb, hr, hml, hown, hts0, hX, hbl, hlocks, hgv⟩ := id C0
  have hts : ∀ w ∈ wA, w.before #[Value.ref b] s = true := fun w h => hts0 w (List.mem_filter.mp h).1
  have hown : s.vm.findClass RL = some m.cls := hown
  have hcf : CallFix p m c code 7 s #[Value.ref b] wA RL := ⟨hx, hb, hml, hown, hts⟩
  have hbA : ¬ (fun q : Nat => s.heap.size ≤ q) b := Nat.not_le.mpr hbl
  refine lv_aload_n hx hb dL_law_421 rfl (lv_at hl 1 rfl) ?_
  refine lv_aload_n hx hb dL_law_422 rfl (lv_at hl 0 rfl) ?_
  refine lv_iload hx hb dL_law_423 (lv_at hl 4 rfl) ?_
  refine lv_iconst (v := 1) hx hb dL_law_425 (by decide) ?_
  refine lv_iadd hx hb dL_law_426 ?_
  refine lv_topi (fun v426 e426 => ?_)
  have i426 : v426.toInt = i.toInt + 1 := zadd e426 rfl (by decide) (by omega) (by omega)
  refine va_sld hx hb hX hbl hbA hS (vp_in_iff.mpr ⟨by omega, by omega⟩) dL_law_427 ?_
  refine lv_topi (fun v427 e427 => ?_)
  refine lv_aload_n hx hb dL_law_428 rfl (lv_at hl 0 rfl) ?_
  refine lv_iload hx hb dL_law_429 (lv_at hl 4 rfl) ?_
  refine lv_iconst (v := 2) hx hb dL_law_431 (by decide) ?_
  refine lv_iadd hx hb dL_law_432 ?_
  refine lv_topi (fun v432 e432 => ?_)
  have i432 : v432.toInt = i.toInt + 2 := zadd e432 rfl (by decide) (by omega) (by omega)
  refine va_sld hx hb hX hbl hbA hS (vp_in_iff.mpr ⟨by omega, by omega⟩) dL_law_433 ?_
  refine lv_topi (fun v433 e433 => ?_)
  refine lv_aload_n hx hb dL_law_434 rfl (lv_at hl 3 rfl) ?_
  refine k_L_bride (rest := []) hcf hK3 hV hC hO hP hD hS (fun _ h => h) hl.1 (Nat.le_of_ble_eq_true rfl) hl0 hG (by show k + 1 ≤ 601024; omega) (by show n + 6 ≤ 7293034; omega) dL_law_435 (fun v435 C fo H locs hq1 hC hP hD hS => ?_)
  refine lv_istore (lv' := [(5, .int v435), (0, .ref b), (1, .ref x0), (2, .ref m0), (3, .ref o0), (4, .int i)]) hx hb dL_law_438 hl (by decide) rfl (fun ls hl => ?_)
  refine lv_aload_n hx hb dL_law_440 rfl (lv_at hl 3 rfl) ?_
  refine lv_aload_n hx hb dL_law_441 rfl (lv_at hl 1 rfl) ?_
  refine lv_iload hx hb dL_law_442 (lv_at hl 5 rfl) ?_
  refine lv_iconst (v := 1) hx hb dL_law_444 (by decide) ?_
  refine lv_iadd hx hb dL_law_445 ?_
  refine lv_topi (fun v445 e445 => ?_)
  have i445 : v445.toInt = i.toInt + 1 := zadd e445 rfl (by decide) (by omega) (by omega)
  refine va_sld hx hb hX hbl hbA hS (vp_in_iff.mpr ⟨by omega, by omega⟩) dL_law_446 ?_
  refine lv_topi (fun v446 e446 => ?_)
  refine lv_aload_n hx hb dL_law_447 rfl (lv_at hl 1 rfl) ?_
  refine lv_iload hx hb dL_law_448 (lv_at hl 5 rfl) ?_
  refine lv_iconst (v := 2) hx hb dL_law_450 (by decide) ?_
  refine lv_iadd hx hb dL_law_451 ?_
  refine lv_topi (fun v451 e451 => ?_)
  have i451 : v451.toInt = i.toInt + 2 := zadd e451 rfl (by decide) (by omega) (by omega)
  refine va_sld hx hb hX hbl hbA hS (vp_in_iff.mpr ⟨by omega, by omega⟩) dL_law_452 ?_
  refine lv_topi (fun v452 e452 => ?_)
  have hP := zRotP hP
  have hD := zRotD hD
  refine k_X11_bride (rest := []) hcf hK3 hV hR hO hP hD hS (fun _ h => h) hl.1 (Nat.le_of_ble_eq_true rfl) (by show k + 1 + 0 ≤ 601024; omega) (by show n + 6 + 0 ≤ 7293034; omega) dL_law_453 (fun v453 Rr H locs hR hP hD hS => ?_)
  have hP := zRotP' hP
  have hD := zRotD' hD
  refine lv_istore (lv' := [(6, .int v453), (5, .int v435), (0, .ref b), (1, .ref x0), (2, .ref m0), (3, .ref o0), (4, .int i)]) hx hb dL_law_456 hl (by decide) rfl (fun ls hl => ?_)
  refine lv_goto (tgt := 1797) hx hb dL_law_458 (by decide) ?_
  refine W.widen (k := k + 3) (n := n + 300) (by omega) (by omega) ?_
  exact J _ C Rr fo H locs ls hO hC hR hP hD hS (lv_sub hl [2, 3, 4, 5, 6] rfl)
set_option maxHeartbeats 4000000 in
set_option maxRecDepth 100000 in
theorem law_case_6 {p : Program} {l : Launch} {e : Env} {s : State} {m : MethodId} {below : List Frame} {meth : Method} {c : Code} {b L : Nat} {xs : Nat → Int32} {dC : Nat → ClassId} {dI : Nat → Nat → Nat} {cI cJ cQ : ClassId} {x0 m0 o0 : Nat} (hl0 : l.stackTraces = false) (C0 : lw_At p s m meth c b L xs) (hK3 : va_K (dC, dI) vwCl [(cI, .int), (cJ, .long), (cQ, .object "NinePortraits$Law")] s) (hV : zV (fun q : Nat => s.heap.size ≤ q) s) (hG : zG (fun q : Nat => s.heap.size ≤ q) s) (hCa : zCa s) (hL : L ≤ 3584) {sg : zSy} {C Rr : va_W} {fo : Nat → Int64} {i : Int32} {H : Heap} {locs : List Loc} {ls : Array Slot} {k n : Nat} (hO : zOkG sg) (hC : zCi cI cJ cQ x0 sg C) (hR : zRi cI m0 sg Rr) (hP : va_P (dC, dI) vwCl (C ++ ((o0, .inl (cJ, 1, .inr (.inl fo))) :: Rr)) H) (hD : va_D (fun q : Nat => s.heap.size ≤ q) (C ++ ((o0, .inl (cJ, 1, .inr (.inl fo))) :: Rr))) (hS : va_S (fun q : Nat => s.heap.size ≤ q) s.heap H locs) (hl : lv_has ls 7 [(0, .ref b), (1, .ref x0), (2, .ref m0), (3, .ref o0), (4, .int i)]) (hi0 : 0 ≤ i.toInt) (hiL : i.toInt + 7 ≤ (L : Int)) (hk : k + 3 ≤ 601024) (hn : n + 300 ≤ 7293034) (J : ∀ (sg : zSy) (C Rr : va_W) (fo : Nat → Int64) (H : Heap) (locs : List Loc) (ls : Array Slot), zOkG sg → zCi cI cJ cQ x0 sg C → zRi cI m0 sg Rr → va_P (dC, dI) vwCl (C ++ ((o0, .inl (cJ, 1, .inr (.inl fo))) :: Rr)) H → va_D (fun q : Nat => s.heap.size ≤ q) (C ++ ((o0, .inl (cJ, 1, .inr (.inl fo))) :: Rr)) → va_S (fun q : Nat => s.heap.size ≤ q) s.heap H locs → lv_has ls 7 [(0, .ref b), (1, .ref x0), (2, .ref m0), (3, .ref o0), (4, .int i)] → W p l e room_1 s m #[Value.ref b] below meth c H locs (k + 3) (n + 300) (lw_Z below #[Value.ref b] s) (F0 m 1797 ls [])) : W p l e room_1 s m #[Value.ref b] below meth c H locs k n (lw_Z below #[Value.ref b] s) (F0 m 461 ls []) := by
  obtain ⟨hx, hb, hr, hml, hown, hts0, hX, hbl, hlocks, hgv⟩ := id C0
  have hts : ∀ w ∈ wA, w.before #[Value.ref b] s = true := fun w h => hts0 w (List.mem_filter.mp h).1
  have hown : s.vm.findClass RL = some m.cls := hown
  have hcf : CallFix p m c code 7 s #[Value.ref b] wA RL := ⟨hx, hb, hml, hown, hts⟩
  have hbA : ¬ (fun q : Nat => s.heap.size ≤ q) b := Nat.not_le.mpr hbl
  refine lv_aload_n hx hb dL_law_461 rfl (lv_at hl 1 rfl) ?_
  refine lv_aload_n hx hb dL_law_462 rfl (lv_at hl 0 rfl) ?_
  refine lv_iload hx hb dL_law_463 (lv_at hl 4 rfl) ?_
  refine lv_iconst (v := 1) hx hb dL_law_465 (by decide) ?_
  refine lv_iadd hx hb dL_law_466 ?_
  refine lv_topi (fun v466 e466 => ?_)
  have i466 : v466.toInt = i.toInt + 1 := zadd e466 rfl (by decide) (by omega) (by omega)
  refine va_sld hx hb hX hbl hbA hS (vp_in_iff.mpr ⟨by omega, by omega⟩) dL_law_467 ?_
  refine lv_topi (fun v467 e467 => ?_)
  refine lv_aload_n hx hb dL_law_468 rfl (lv_at hl 0 rfl) ?_
  refine lv_iload hx hb dL_law_469 (lv_at hl 4 rfl) ?_
  refine lv_iconst (v := 2) hx hb dL_law_471 (by decide) ?_
  refine lv_iadd hx hb dL_law_472 ?_
  refine lv_topi (fun v472 e472 => ?_)
  have i472 : v472.toInt = i.toInt + 2 := zadd e472 rfl (by decide) (by omega) (by omega)
  refine va_sld hx hb hX hbl hbA hS (vp_in_iff.mpr ⟨by omega, by omega⟩) dL_law_473 ?_
  refine lv_topi (fun v473 e473 => ?_)
  refine k_X10_painter (rest := []) hcf hK3 hV hC hO hP hD hS (fun _ h => h) hl.1 (Nat.le_of_ble_eq_true rfl) (by show k + 0 ≤ 601024; omega) (by show n + 0 ≤ 7293034; omega) dL_law_474 (fun v474 C H locs hv1 hC hP hD hS => ?_)
  refine lv_pop hx hb dL_law_477 rfl ?_
  refine lv_aload_n hx hb dL_law_478 rfl (lv_at hl 2 rfl) ?_
  refine lv_aload_n hx hb dL_law_479 rfl (lv_at hl 0 rfl) ?_
  refine lv_iload hx hb dL_law_480 (lv_at hl 4 rfl) ?_
  refine lv_iconst (v := 1) hx hb dL_law_482 (by decide) ?_
  refine lv_iadd hx hb dL_law_483 ?_
  refine lv_topi (fun v483 e483 => ?_)
  have i483 : v483.toInt = i.toInt + 1 := zadd e483 rfl (by decide) (by omega) (by omega)
  refine va_sld hx hb hX hbl hbA hS (vp_in_iff.mpr ⟨by omega, by omega⟩) dL_law_484 ?_
  refine lv_topi (fun v484 e484 => ?_)
  refine lv_aload_n hx hb dL_law_485 rfl (lv_at hl 0 rfl) ?_
  refine lv_iload hx hb dL_law_486 (lv_at hl 4 rfl) ?_
  refine lv_iconst (v := 2) hx hb dL_law_488 (by decide) ?_
  refine lv_iadd hx hb dL_law_489 ?_
  refine lv_topi (fun v489 e489 => ?_)
  have i489 : v489.toInt = i.toInt + 2 := zadd e489 rfl (by decide) (by omega) (by omega)
  refine va_sld hx hb hX hbl hbA hS (vp_in_iff.mpr ⟨by omega, by omega⟩) dL_law_490 ?_
  refine lv_topi (fun v490 e490 => ?_)
  have hP := zRotP hP
  have hD := zRotD hD
  refine k_X11_painter (rest := []) hcf hK3 hV hR hO hP hD hS (fun _ h => h) hl.1 (Nat.le_of_ble_eq_true rfl) (by show k + 0 ≤ 601024; omega) (by show n + 0 ≤ 7293034; omega) dL_law_491 (fun v491 Rr H locs hv2 hR hP hD hS => ?_)
  have hP := zRotP' hP
  have hD := zRotD' hD
  have ev0 : v484 = v467 := by rw [e484, e467, e483, e466]
  rw [ev0] at hv2
  have ev1 : v490 = v473 := by rw [e490, e473, e489, e472]
  rw [ev1] at hv2
  have er : v474.toInt = v491.toInt := congrArg Int32.toInt (hv1.trans hv2.symm)
  refine lv_pop hx hb dL_law_494 rfl ?_
  refine lv_goto (tgt := 1797) hx hb dL_law_495 (by decide) ?_
  refine W.widen (k := k + 3) (n := n + 300) (by omega) (by omega) ?_
  exact J _ C Rr fo H locs ls hO hC hR hP hD hS (lv_sub hl [0, 1, 2, 3, 4] rfl)
set_option maxHeartbeats 4000000 in
set_option maxRecDepth 100000 in
theorem law_case_7 {p : Program} {l : Launch} {e : Env} {s : State} {m : MethodId} {below : List Frame} {meth : Method} {c : Code} {b L : Nat} {xs : Nat → Int32} {dC : Nat → ClassId} {dI : Nat → Nat → Nat} {cI cJ cQ : ClassId} {x0 m0 o0 : Nat} (hl0 : l.stackTraces = false) (C0 : lw_At p s m meth c b L xs) (hK3 : va_K (dC, dI) vwCl [(cI, .int), (cJ, .long), (cQ, .object "NinePortraits$Law")] s) (hV : zV (fun q : Nat => s.heap.size ≤ q) s) (hG : zG (fun q : Nat => s.heap.size ≤ q) s) (hCa : zCa s) (hL : L ≤ 3584) {sg : zSy} {C Rr : va_W} {fo : Nat → Int64} {i : Int32} {H : Heap} {locs : List Loc} {ls : Array Slot} {k n : Nat} (hO : zOkG sg) (hC : zCi cI cJ cQ x0 sg C) (hR : zRi cI m0 sg Rr) (hP : va_P (dC, dI) vwCl (C ++ ((o0, .inl (cJ, 1, .inr (.inl fo))) :: Rr)) H) (hD : va_D (fun q : Nat => s.heap.size ≤ q) (C ++ ((o0, .inl (cJ, 1, .inr (.inl fo))) :: Rr))) (hS : va_S (fun q : Nat => s.heap.size ≤ q) s.heap H locs) (hl : lv_has ls 7 [(0, .ref b), (1, .ref x0), (2, .ref m0), (3, .ref o0), (4, .int i)]) (hi0 : 0 ≤ i.toInt) (hiL : i.toInt + 7 ≤ (L : Int)) (hk : k + 3 ≤ 601024) (hn : n + 300 ≤ 7293034) (J : ∀ (sg : zSy) (C Rr : va_W) (fo : Nat → Int64) (H : Heap) (locs : List Loc) (ls : Array Slot), zOkG sg → zCi cI cJ cQ x0 sg C → zRi cI m0 sg Rr → va_P (dC, dI) vwCl (C ++ ((o0, .inl (cJ, 1, .inr (.inl fo))) :: Rr)) H → va_D (fun q : Nat => s.heap.size ≤ q) (C ++ ((o0, .inl (cJ, 1, .inr (.inl fo))) :: Rr)) → va_S (fun q : Nat => s.heap.size ≤ q) s.heap H locs → lv_has ls 7 [(0, .ref b), (1, .ref x0), (2, .ref m0), (3, .ref o0), (4, .int i)] → W p l e room_1 s m #[Value.ref b] below meth c H locs (k + 3) (n + 300) (lw_Z below #[Value.ref b] s) (F0 m 1797 ls [])) : W p l e room_1 s m #[Value.ref b] below meth c H locs k n (lw_Z below #[Value.ref b] s) (F0 m 498 ls []) := by
  obtain ⟨hx, hb, hr, hml, hown, hts0, hX, hbl, hlocks, hgv⟩ := id C0
  have hts : ∀ w ∈ wA, w.before #[Value.ref b] s = true := fun w h => hts0 w (List.mem_filter.mp h).1
  have hown : s.vm.findClass RL = some m.cls := hown
  have hcf : CallFix p m c code 7 s #[Value.ref b] wA RL := ⟨hx, hb, hml, hown, hts⟩
  have hbA : ¬ (fun q : Nat => s.heap.size ≤ q) b := Nat.not_le.mpr hbl
  refine lv_aload_n hx hb dL_law_498 rfl (lv_at hl 1 rfl) ?_
  refine lv_aload_n hx hb dL_law_499 rfl (lv_at hl 0 rfl) ?_
  refine lv_iload hx hb dL_law_500 (lv_at hl 4 rfl) ?_
  refine lv_iconst (v := 1) hx hb dL_law_502 (by decide) ?_
  refine lv_iadd hx hb dL_law_503 ?_
  refine lv_topi (fun v503 e503 => ?_)
  have i503 : v503.toInt = i.toInt + 1 := zadd e503 rfl (by decide) (by omega) (by omega)
  refine va_sld hx hb hX hbl hbA hS (vp_in_iff.mpr ⟨by omega, by omega⟩) dL_law_504 ?_
  refine lv_topi (fun v504 e504 => ?_)
  refine k_X10_law (rest := []) hcf hK3 hV hC hO hP hD hS (fun _ h => h) hl.1 (Nat.le_of_ble_eq_true rfl) (by show k + 0 ≤ 601024; omega) (by show n + 0 ≤ 7293034; omega) dL_law_505 (fun v505 C H locs hv1 hC hP hD hS => ?_)
  refine lv_aload_n hx hb dL_law_508 rfl (lv_at hl 2 rfl) ?_
  refine lv_aload_n hx hb dL_law_509 rfl (lv_at hl 0 rfl) ?_
  refine lv_iload hx hb dL_law_510 (lv_at hl 4 rfl) ?_
  refine lv_iconst (v := 1) hx hb dL_law_512 (by decide) ?_
  refine lv_iadd hx hb dL_law_513 ?_
  refine lv_topi (fun v513 e513 => ?_)
  have i513 : v513.toInt = i.toInt + 1 := zadd e513 rfl (by decide) (by omega) (by omega)
  refine va_sld hx hb hX hbl hbA hS (vp_in_iff.mpr ⟨by omega, by omega⟩) dL_law_514 ?_
  refine lv_topi (fun v514 e514 => ?_)
  have hP := zRotP hP
  have hD := zRotD hD
  refine k_X11_law (rest := [.int v505]) hcf hK3 hV hR hO hP hD hS (fun _ h => h) hl.1 (Nat.le_of_ble_eq_true rfl) (by show k + 0 ≤ 601024; omega) (by show n + 0 ≤ 7293034; omega) dL_law_515 (fun v515 Rr H locs hv2 hR hP hD hS => ?_)
  have hP := zRotP' hP
  have hD := zRotD' hD
  have ev0 : v514 = v504 := by rw [e514, e504, e513, e503]
  rw [ev0] at hv2 hR
  have er : v505.toInt = v515.toInt := hv1.trans hv2.symm
  have hO : zOkG (sg.1, sg.2.1, sg.2.2.1, sg.2.2.2.1, sH_law sg.2.1 v504 sg.2.2.2.2.1, sg.2.2.2.2.2.1, sg.2.2.2.2.2.2) := ⟨hO.1, sH_law_b hO.2⟩
  have hr1 : v505 = v515 := Int32.toInt_inj.mp er
  refine lv_icmp_eq (tgt := 1797) hx hb dL_law_518 (by decide) (fun _ => ?_) (fun q => absurd hr1 q)
  refine W.widen (k := k + 3) (n := n + 300) (by omega) (by omega) ?_
  exact J _ C Rr fo H locs ls hO hC hR hP hD hS (lv_sub hl [0, 1, 2, 3, 4] rfl)
set_option maxHeartbeats 4000000 in
set_option maxRecDepth 100000 in
theorem law_case_8 {p : Program} {l : Launch} {e : Env} {s : State} {m : MethodId} {below : List Frame} {meth : Method} {c : Code} {b L : Nat} {xs : Nat → Int32} {dC : Nat → ClassId} {dI : Nat → Nat → Nat} {cI cJ cQ : ClassId} {x0 m0 o0 : Nat} (hl0 : l.stackTraces = false) (C0 : lw_At p s m meth c b L xs) (hK3 : va_K (dC, dI) vwCl [(cI, .int), (cJ, .long), (cQ, .object "NinePortraits$Law")] s) (hV : zV (fun q : Nat => s.heap.size ≤ q) s) (hG : zG (fun q : Nat => s.heap.size ≤ q) s) (hCa : zCa s) (hL : L ≤ 3584) {sg : zSy} {C Rr : va_W} {fo : Nat → Int64} {i : Int32} {H : Heap} {locs : List Loc} {ls : Array Slot} {k n : Nat} (hO : zOkG sg) (hC : zCi cI cJ cQ x0 sg C) (hR : zRi cI m0 sg Rr) (hP : va_P (dC, dI) vwCl (C ++ ((o0, .inl (cJ, 1, .inr (.inl fo))) :: Rr)) H) (hD : va_D (fun q : Nat => s.heap.size ≤ q) (C ++ ((o0, .inl (cJ, 1, .inr (.inl fo))) :: Rr))) (hS : va_S (fun q : Nat => s.heap.size ≤ q) s.heap H locs) (hl : lv_has ls 7 [(0, .ref b), (1, .ref x0), (2, .ref m0), (3, .ref o0), (4, .int i)]) (hi0 : 0 ≤ i.toInt) (hiL : i.toInt + 7 ≤ (L : Int)) (hk : k + 3 ≤ 601024) (hn : n + 300 ≤ 7293034) (J : ∀ (sg : zSy) (C Rr : va_W) (fo : Nat → Int64) (H : Heap) (locs : List Loc) (ls : Array Slot), zOkG sg → zCi cI cJ cQ x0 sg C → zRi cI m0 sg Rr → va_P (dC, dI) vwCl (C ++ ((o0, .inl (cJ, 1, .inr (.inl fo))) :: Rr)) H → va_D (fun q : Nat => s.heap.size ≤ q) (C ++ ((o0, .inl (cJ, 1, .inr (.inl fo))) :: Rr)) → va_S (fun q : Nat => s.heap.size ≤ q) s.heap H locs → lv_has ls 7 [(0, .ref b), (1, .ref x0), (2, .ref m0), (3, .ref o0), (4, .int i)] → W p l e room_1 s m #[Value.ref b] below meth c H locs (k + 3) (n + 300) (lw_Z below #[Value.ref b] s) (F0 m 1797 ls [])) : W p l e room_1 s m #[Value.ref b] below meth c H locs k n (lw_Z below #[Value.ref b] s) (F0 m 523 ls []) := by
  obtain ⟨hx, hb, hr, hml, hown, hts0, hX, hbl, hlocks, hgv⟩ := id C0
  have hts : ∀ w ∈ wA, w.before #[Value.ref b] s = true := fun w h => hts0 w (List.mem_filter.mp h).1
  have hown : s.vm.findClass RL = some m.cls := hown
  have hcf : CallFix p m c code 7 s #[Value.ref b] wA RL := ⟨hx, hb, hml, hown, hts⟩
  have hbA : ¬ (fun q : Nat => s.heap.size ≤ q) b := Nat.not_le.mpr hbl
  refine lv_aload_n hx hb dL_law_523 rfl (lv_at hl 1 rfl) ?_
  refine lv_aload_n hx hb dL_law_524 rfl (lv_at hl 0 rfl) ?_
  refine lv_iload hx hb dL_law_525 (lv_at hl 4 rfl) ?_
  refine lv_iconst (v := 1) hx hb dL_law_527 (by decide) ?_
  refine lv_iadd hx hb dL_law_528 ?_
  refine lv_topi (fun v528 e528 => ?_)
  have i528 : v528.toInt = i.toInt + 1 := zadd e528 rfl (by decide) (by omega) (by omega)
  refine va_sld hx hb hX hbl hbA hS (vp_in_iff.mpr ⟨by omega, by omega⟩) dL_law_529 ?_
  refine lv_topi (fun v529 e529 => ?_)
  refine lv_aload_n hx hb dL_law_530 rfl (lv_at hl 0 rfl) ?_
  refine lv_iload hx hb dL_law_531 (lv_at hl 4 rfl) ?_
  refine lv_iconst (v := 2) hx hb dL_law_533 (by decide) ?_
  refine lv_iadd hx hb dL_law_534 ?_
  refine lv_topi (fun v534 e534 => ?_)
  have i534 : v534.toInt = i.toInt + 2 := zadd e534 rfl (by decide) (by omega) (by omega)
  refine va_sld hx hb hX hbl hbA hS (vp_in_iff.mpr ⟨by omega, by omega⟩) dL_law_535 ?_
  refine lv_topi (fun v535 e535 => ?_)
  refine k_X10_flattery (rest := []) hcf hK3 hV hC hO hP hD hS (fun _ h => h) hl.1 (Nat.le_of_ble_eq_true rfl) (by show k + 0 ≤ 601024; omega) (by show n + 0 ≤ 7293034; omega) dL_law_536 (fun v536 C H locs hv1 hC hP hD hS => ?_)
  refine lv_pop hx hb dL_law_539 rfl ?_
  refine lv_aload_n hx hb dL_law_540 rfl (lv_at hl 2 rfl) ?_
  refine lv_aload_n hx hb dL_law_541 rfl (lv_at hl 0 rfl) ?_
  refine lv_iload hx hb dL_law_542 (lv_at hl 4 rfl) ?_
  refine lv_iconst (v := 1) hx hb dL_law_544 (by decide) ?_
  refine lv_iadd hx hb dL_law_545 ?_
  refine lv_topi (fun v545 e545 => ?_)
  have i545 : v545.toInt = i.toInt + 1 := zadd e545 rfl (by decide) (by omega) (by omega)
  refine va_sld hx hb hX hbl hbA hS (vp_in_iff.mpr ⟨by omega, by omega⟩) dL_law_546 ?_
  refine lv_topi (fun v546 e546 => ?_)
  refine lv_aload_n hx hb dL_law_547 rfl (lv_at hl 0 rfl) ?_
  refine lv_iload hx hb dL_law_548 (lv_at hl 4 rfl) ?_
  refine lv_iconst (v := 2) hx hb dL_law_550 (by decide) ?_
  refine lv_iadd hx hb dL_law_551 ?_
  refine lv_topi (fun v551 e551 => ?_)
  have i551 : v551.toInt = i.toInt + 2 := zadd e551 rfl (by decide) (by omega) (by omega)
  refine va_sld hx hb hX hbl hbA hS (vp_in_iff.mpr ⟨by omega, by omega⟩) dL_law_552 ?_
  refine lv_topi (fun v552 e552 => ?_)
  have hP := zRotP hP
  have hD := zRotD hD
  refine k_X11_flattery (rest := []) hcf hK3 hV hR hO hP hD hS (fun _ h => h) hl.1 (Nat.le_of_ble_eq_true rfl) (by show k + 0 ≤ 601024; omega) (by show n + 0 ≤ 7293034; omega) dL_law_553 (fun v553 Rr H locs hv2 hR hP hD hS => ?_)
  have hP := zRotP' hP
  have hD := zRotD' hD
  have ev0 : v546 = v529 := by rw [e546, e529, e545, e528]
  rw [ev0] at hv2
  have ev1 : v552 = v535 := by rw [e552, e535, e551, e534]
  rw [ev1] at hv2
  have er : v536.toInt = v553.toInt := congrArg Int32.toInt (hv1.trans hv2.symm)
  refine lv_pop hx hb dL_law_556 rfl ?_
  refine lv_goto (tgt := 1797) hx hb dL_law_557 (by decide) ?_
  refine W.widen (k := k + 3) (n := n + 300) (by omega) (by omega) ?_
  exact J _ C Rr fo H locs ls hO hC hR hP hD hS (lv_sub hl [0, 1, 2, 3, 4] rfl)
set_option maxHeartbeats 4000000 in
set_option maxRecDepth 100000 in
theorem law_case_9 {p : Program} {l : Launch} {e : Env} {s : State} {m : MethodId} {below : List Frame} {meth : Method} {c : Code} {b L : Nat} {xs : Nat → Int32} {dC : Nat → ClassId} {dI : Nat → Nat → Nat} {cI cJ cQ : ClassId} {x0 m0 o0 : Nat} (hl0 : l.stackTraces = false) (C0 : lw_At p s m meth c b L xs) (hK3 : va_K (dC, dI) vwCl [(cI, .int), (cJ, .long), (cQ, .object "NinePortraits$Law")] s) (hV : zV (fun q : Nat => s.heap.size ≤ q) s) (hG : zG (fun q : Nat => s.heap.size ≤ q) s) (hCa : zCa s) (hL : L ≤ 3584) {sg : zSy} {C Rr : va_W} {fo : Nat → Int64} {i : Int32} {H : Heap} {locs : List Loc} {ls : Array Slot} {k n : Nat} (hO : zOkG sg) (hC : zCi cI cJ cQ x0 sg C) (hR : zRi cI m0 sg Rr) (hP : va_P (dC, dI) vwCl (C ++ ((o0, .inl (cJ, 1, .inr (.inl fo))) :: Rr)) H) (hD : va_D (fun q : Nat => s.heap.size ≤ q) (C ++ ((o0, .inl (cJ, 1, .inr (.inl fo))) :: Rr))) (hS : va_S (fun q : Nat => s.heap.size ≤ q) s.heap H locs) (hl : lv_has ls 7 [(0, .ref b), (1, .ref x0), (2, .ref m0), (3, .ref o0), (4, .int i)]) (hi0 : 0 ≤ i.toInt) (hiL : i.toInt + 7 ≤ (L : Int)) (hk : k + 3 ≤ 601024) (hn : n + 300 ≤ 7293034) (J : ∀ (sg : zSy) (C Rr : va_W) (fo : Nat → Int64) (H : Heap) (locs : List Loc) (ls : Array Slot), zOkG sg → zCi cI cJ cQ x0 sg C → zRi cI m0 sg Rr → va_P (dC, dI) vwCl (C ++ ((o0, .inl (cJ, 1, .inr (.inl fo))) :: Rr)) H → va_D (fun q : Nat => s.heap.size ≤ q) (C ++ ((o0, .inl (cJ, 1, .inr (.inl fo))) :: Rr)) → va_S (fun q : Nat => s.heap.size ≤ q) s.heap H locs → lv_has ls 7 [(0, .ref b), (1, .ref x0), (2, .ref m0), (3, .ref o0), (4, .int i)] → W p l e room_1 s m #[Value.ref b] below meth c H locs (k + 3) (n + 300) (lw_Z below #[Value.ref b] s) (F0 m 1797 ls [])) : W p l e room_1 s m #[Value.ref b] below meth c H locs k n (lw_Z below #[Value.ref b] s) (F0 m 560 ls []) := by
  obtain ⟨hx, hb, hr, hml, hown, hts0, hX, hbl, hlocks, hgv⟩ := id C0
  have hts : ∀ w ∈ wA, w.before #[Value.ref b] s = true := fun w h => hts0 w (List.mem_filter.mp h).1
  have hown : s.vm.findClass RL = some m.cls := hown
  have hcf : CallFix p m c code 7 s #[Value.ref b] wA RL := ⟨hx, hb, hml, hown, hts⟩
  have hbA : ¬ (fun q : Nat => s.heap.size ≤ q) b := Nat.not_le.mpr hbl
  refine lv_aload_n hx hb dL_law_560 rfl (lv_at hl 1 rfl) ?_
  refine lv_aload_n hx hb dL_law_561 rfl (lv_at hl 0 rfl) ?_
  refine lv_iload hx hb dL_law_562 (lv_at hl 4 rfl) ?_
  refine lv_iconst (v := 1) hx hb dL_law_564 (by decide) ?_
  refine lv_iadd hx hb dL_law_565 ?_
  refine lv_topi (fun v565 e565 => ?_)
  have i565 : v565.toInt = i.toInt + 1 := zadd e565 rfl (by decide) (by omega) (by omega)
  refine va_sld hx hb hX hbl hbA hS (vp_in_iff.mpr ⟨by omega, by omega⟩) dL_law_566 ?_
  refine lv_topi (fun v566 e566 => ?_)
  refine lv_aload_n hx hb dL_law_567 rfl (lv_at hl 0 rfl) ?_
  refine lv_iload hx hb dL_law_568 (lv_at hl 4 rfl) ?_
  refine lv_iconst (v := 2) hx hb dL_law_570 (by decide) ?_
  refine lv_iadd hx hb dL_law_571 ?_
  refine lv_topi (fun v571 e571 => ?_)
  have i571 : v571.toInt = i.toInt + 2 := zadd e571 rfl (by decide) (by omega) (by omega)
  refine va_sld hx hb hX hbl hbA hS (vp_in_iff.mpr ⟨by omega, by omega⟩) dL_law_572 ?_
  refine lv_topi (fun v572 e572 => ?_)
  refine lv_aload_n hx hb dL_law_573 rfl (lv_at hl 0 rfl) ?_
  refine lv_iload hx hb dL_law_574 (lv_at hl 4 rfl) ?_
  refine lv_iconst (v := 3) hx hb dL_law_576 (by decide) ?_
  refine lv_iadd hx hb dL_law_577 ?_
  refine lv_topi (fun v577 e577 => ?_)
  have i577 : v577.toInt = i.toInt + 3 := zadd e577 rfl (by decide) (by omega) (by omega)
  refine va_sld hx hb hX hbl hbA hS (vp_in_iff.mpr ⟨by omega, by omega⟩) dL_law_578 ?_
  refine lv_topi (fun v578 e578 => ?_)
  refine k_X10_shown (rest := []) hcf hK3 hV hC hO hP hD hS (fun _ h => h) hl.1 (Nat.le_of_ble_eq_true rfl) (by show k + 0 ≤ 601024; omega) (by show n + 0 ≤ 7293034; omega) dL_law_579 (fun v579 C H locs hv1 hC hP hD hS => ?_)
  refine lv_pop hx hb dL_law_582 rfl ?_
  refine lv_aload_n hx hb dL_law_583 rfl (lv_at hl 2 rfl) ?_
  refine lv_aload_n hx hb dL_law_584 rfl (lv_at hl 0 rfl) ?_
  refine lv_iload hx hb dL_law_585 (lv_at hl 4 rfl) ?_
  refine lv_iconst (v := 1) hx hb dL_law_587 (by decide) ?_
  refine lv_iadd hx hb dL_law_588 ?_
  refine lv_topi (fun v588 e588 => ?_)
  have i588 : v588.toInt = i.toInt + 1 := zadd e588 rfl (by decide) (by omega) (by omega)
  refine va_sld hx hb hX hbl hbA hS (vp_in_iff.mpr ⟨by omega, by omega⟩) dL_law_589 ?_
  refine lv_topi (fun v589 e589 => ?_)
  refine lv_aload_n hx hb dL_law_590 rfl (lv_at hl 0 rfl) ?_
  refine lv_iload hx hb dL_law_591 (lv_at hl 4 rfl) ?_
  refine lv_iconst (v := 2) hx hb dL_law_593 (by decide) ?_
  refine lv_iadd hx hb dL_law_594 ?_
  refine lv_topi (fun v594 e594 => ?_)
  have i594 : v594.toInt = i.toInt + 2 := zadd e594 rfl (by decide) (by omega) (by omega)
  refine va_sld hx hb hX hbl hbA hS (vp_in_iff.mpr ⟨by omega, by omega⟩) dL_law_595 ?_
  refine lv_topi (fun v595 e595 => ?_)
  refine lv_aload_n hx hb dL_law_596 rfl (lv_at hl 0 rfl) ?_
  refine lv_iload hx hb dL_law_597 (lv_at hl 4 rfl) ?_
  refine lv_iconst (v := 3) hx hb dL_law_599 (by decide) ?_
  refine lv_iadd hx hb dL_law_600 ?_
  refine lv_topi (fun v600 e600 => ?_)
  have i600 : v600.toInt = i.toInt + 3 := zadd e600 rfl (by decide) (by omega) (by omega)
  refine va_sld hx hb hX hbl hbA hS (vp_in_iff.mpr ⟨by omega, by omega⟩) dL_law_601 ?_
  refine lv_topi (fun v601 e601 => ?_)
  have hP := zRotP hP
  have hD := zRotD hD
  refine k_X11_shown (rest := []) hcf hK3 hV hR hO hP hD hS (fun _ h => h) hl.1 (Nat.le_of_ble_eq_true rfl) (by show k + 0 ≤ 601024; omega) (by show n + 0 ≤ 7293034; omega) dL_law_602 (fun v602 Rr H locs hv2 hR hP hD hS => ?_)
  have hP := zRotP' hP
  have hD := zRotD' hD
  have ev0 : v589 = v566 := by rw [e589, e566, e588, e565]
  rw [ev0] at hv2
  have ev1 : v595 = v572 := by rw [e595, e572, e594, e571]
  rw [ev1] at hv2
  have ev2 : v601 = v578 := by rw [e601, e578, e600, e577]
  rw [ev2] at hv2
  have er : v579.toInt = v602.toInt := congrArg Int32.toInt (hv1.trans hv2.symm)
  refine lv_pop hx hb dL_law_605 rfl ?_
  refine lv_goto (tgt := 1797) hx hb dL_law_606 (by decide) ?_
  refine W.widen (k := k + 3) (n := n + 300) (by omega) (by omega) ?_
  exact J _ C Rr fo H locs ls hO hC hR hP hD hS (lv_sub hl [0, 1, 2, 3, 4] rfl)
set_option maxHeartbeats 4000000 in
set_option maxRecDepth 100000 in
theorem law_case_10 {p : Program} {l : Launch} {e : Env} {s : State} {m : MethodId} {below : List Frame} {meth : Method} {c : Code} {b L : Nat} {xs : Nat → Int32} {dC : Nat → ClassId} {dI : Nat → Nat → Nat} {cI cJ cQ : ClassId} {x0 m0 o0 : Nat} (hl0 : l.stackTraces = false) (C0 : lw_At p s m meth c b L xs) (hK3 : va_K (dC, dI) vwCl [(cI, .int), (cJ, .long), (cQ, .object "NinePortraits$Law")] s) (hV : zV (fun q : Nat => s.heap.size ≤ q) s) (hG : zG (fun q : Nat => s.heap.size ≤ q) s) (hCa : zCa s) (hL : L ≤ 3584) {sg : zSy} {C Rr : va_W} {fo : Nat → Int64} {i : Int32} {H : Heap} {locs : List Loc} {ls : Array Slot} {k n : Nat} (hO : zOkG sg) (hC : zCi cI cJ cQ x0 sg C) (hR : zRi cI m0 sg Rr) (hP : va_P (dC, dI) vwCl (C ++ ((o0, .inl (cJ, 1, .inr (.inl fo))) :: Rr)) H) (hD : va_D (fun q : Nat => s.heap.size ≤ q) (C ++ ((o0, .inl (cJ, 1, .inr (.inl fo))) :: Rr))) (hS : va_S (fun q : Nat => s.heap.size ≤ q) s.heap H locs) (hl : lv_has ls 7 [(0, .ref b), (1, .ref x0), (2, .ref m0), (3, .ref o0), (4, .int i)]) (hi0 : 0 ≤ i.toInt) (hiL : i.toInt + 7 ≤ (L : Int)) (hk : k + 3 ≤ 601024) (hn : n + 300 ≤ 7293034) (J : ∀ (sg : zSy) (C Rr : va_W) (fo : Nat → Int64) (H : Heap) (locs : List Loc) (ls : Array Slot), zOkG sg → zCi cI cJ cQ x0 sg C → zRi cI m0 sg Rr → va_P (dC, dI) vwCl (C ++ ((o0, .inl (cJ, 1, .inr (.inl fo))) :: Rr)) H → va_D (fun q : Nat => s.heap.size ≤ q) (C ++ ((o0, .inl (cJ, 1, .inr (.inl fo))) :: Rr)) → va_S (fun q : Nat => s.heap.size ≤ q) s.heap H locs → lv_has ls 7 [(0, .ref b), (1, .ref x0), (2, .ref m0), (3, .ref o0), (4, .int i)] → W p l e room_1 s m #[Value.ref b] below meth c H locs (k + 3) (n + 300) (lw_Z below #[Value.ref b] s) (F0 m 1797 ls [])) : W p l e room_1 s m #[Value.ref b] below meth c H locs k n (lw_Z below #[Value.ref b] s) (F0 m 609 ls []) := by
  obtain ⟨hx, hb, hr, hml, hown, hts0, hX, hbl, hlocks, hgv⟩ := id C0
  have hts : ∀ w ∈ wA, w.before #[Value.ref b] s = true := fun w h => hts0 w (List.mem_filter.mp h).1
  have hown : s.vm.findClass RL = some m.cls := hown
  have hcf : CallFix p m c code 7 s #[Value.ref b] wA RL := ⟨hx, hb, hml, hown, hts⟩
  have hbA : ¬ (fun q : Nat => s.heap.size ≤ q) b := Nat.not_le.mpr hbl
  refine lv_aload_n hx hb dL_law_609 rfl (lv_at hl 1 rfl) ?_
  refine lv_aload_n hx hb dL_law_610 rfl (lv_at hl 0 rfl) ?_
  refine lv_iload hx hb dL_law_611 (lv_at hl 4 rfl) ?_
  refine lv_iconst (v := 1) hx hb dL_law_613 (by decide) ?_
  refine lv_iadd hx hb dL_law_614 ?_
  refine lv_topi (fun v614 e614 => ?_)
  have i614 : v614.toInt = i.toInt + 1 := zadd e614 rfl (by decide) (by omega) (by omega)
  refine va_sld hx hb hX hbl hbA hS (vp_in_iff.mpr ⟨by omega, by omega⟩) dL_law_615 ?_
  refine lv_topi (fun v615 e615 => ?_)
  refine lv_aload_n hx hb dL_law_616 rfl (lv_at hl 0 rfl) ?_
  refine lv_iload hx hb dL_law_617 (lv_at hl 4 rfl) ?_
  refine lv_iconst (v := 2) hx hb dL_law_619 (by decide) ?_
  refine lv_iadd hx hb dL_law_620 ?_
  refine lv_topi (fun v620 e620 => ?_)
  have i620 : v620.toInt = i.toInt + 2 := zadd e620 rfl (by decide) (by omega) (by omega)
  refine va_sld hx hb hX hbl hbA hS (vp_in_iff.mpr ⟨by omega, by omega⟩) dL_law_621 ?_
  refine lv_topi (fun v621 e621 => ?_)
  refine k_X10_paint (rest := []) hcf hK3 hV hC hO hP hD hS (fun _ h => h) hl.1 (Nat.le_of_ble_eq_true rfl) (by show k + 0 ≤ 601024; omega) (by show n + 0 ≤ 7293034; omega) dL_law_622 (fun v622 C H locs hv1 hC hP hD hS => ?_)
  refine lv_pop hx hb dL_law_625 rfl ?_
  refine lv_aload_n hx hb dL_law_626 rfl (lv_at hl 2 rfl) ?_
  refine lv_aload_n hx hb dL_law_627 rfl (lv_at hl 0 rfl) ?_
  refine lv_iload hx hb dL_law_628 (lv_at hl 4 rfl) ?_
  refine lv_iconst (v := 1) hx hb dL_law_630 (by decide) ?_
  refine lv_iadd hx hb dL_law_631 ?_
  refine lv_topi (fun v631 e631 => ?_)
  have i631 : v631.toInt = i.toInt + 1 := zadd e631 rfl (by decide) (by omega) (by omega)
  refine va_sld hx hb hX hbl hbA hS (vp_in_iff.mpr ⟨by omega, by omega⟩) dL_law_632 ?_
  refine lv_topi (fun v632 e632 => ?_)
  refine lv_aload_n hx hb dL_law_633 rfl (lv_at hl 0 rfl) ?_
  refine lv_iload hx hb dL_law_634 (lv_at hl 4 rfl) ?_
  refine lv_iconst (v := 2) hx hb dL_law_636 (by decide) ?_
  refine lv_iadd hx hb dL_law_637 ?_
  refine lv_topi (fun v637 e637 => ?_)
  have i637 : v637.toInt = i.toInt + 2 := zadd e637 rfl (by decide) (by omega) (by omega)
  refine va_sld hx hb hX hbl hbA hS (vp_in_iff.mpr ⟨by omega, by omega⟩) dL_law_638 ?_
  refine lv_topi (fun v638 e638 => ?_)
  have hP := zRotP hP
  have hD := zRotD hD
  refine k_X11_paint (rest := []) hcf hK3 hV hR hO hP hD hS (fun _ h => h) hl.1 (Nat.le_of_ble_eq_true rfl) (by show k + 0 ≤ 601024; omega) (by show n + 0 ≤ 7293034; omega) dL_law_639 (fun v639 Rr H locs hv2 hR hP hD hS => ?_)
  have hP := zRotP' hP
  have hD := zRotD' hD
  have ev0 : v632 = v615 := by rw [e632, e615, e631, e614]
  rw [ev0] at hv2 hR
  have ev1 : v638 = v621 := by rw [e638, e621, e637, e620]
  rw [ev1] at hv2 hR
  have er : v622.toInt = v639.toInt := congrArg Int32.toInt (hv1.trans hv2.symm)
  have hO : zOkG (sg.1, sg.2.1, sg.2.2.1, sg.2.2.2.1, sg.2.2.2.2.1, sDo (sW_pnt sg.2.2.2.1.1.toInt sg.2.2.2.1.2.1.toInt sg.2.2.2.1.2.2 sg.2.2.2.2.2.1.1 v615 v621) sg.2.2.2.2.2.1 (sN_pnt sg.2.2.2.1.2.2 sg.2.2.2.2.2.1.1 (zHo1 sg.2.2.2.2.1) v615 v621), sg.2.2.2.2.2.2) := ⟨ok_pnt hO.1, hO.2⟩
  refine lv_pop hx hb dL_law_642 rfl ?_
  refine lv_goto (tgt := 1797) hx hb dL_law_643 (by decide) ?_
  refine W.widen (k := k + 3) (n := n + 300) (by omega) (by omega) ?_
  exact J _ C Rr fo H locs ls hO hC hR hP hD hS (lv_sub hl [0, 1, 2, 3, 4] rfl)
set_option maxHeartbeats 4000000 in
set_option maxRecDepth 100000 in
theorem law_case_11 {p : Program} {l : Launch} {e : Env} {s : State} {m : MethodId} {below : List Frame} {meth : Method} {c : Code} {b L : Nat} {xs : Nat → Int32} {dC : Nat → ClassId} {dI : Nat → Nat → Nat} {cI cJ cQ : ClassId} {x0 m0 o0 : Nat} (hl0 : l.stackTraces = false) (C0 : lw_At p s m meth c b L xs) (hK3 : va_K (dC, dI) vwCl [(cI, .int), (cJ, .long), (cQ, .object "NinePortraits$Law")] s) (hV : zV (fun q : Nat => s.heap.size ≤ q) s) (hG : zG (fun q : Nat => s.heap.size ≤ q) s) (hCa : zCa s) (hL : L ≤ 3584) {sg : zSy} {C Rr : va_W} {fo : Nat → Int64} {i : Int32} {H : Heap} {locs : List Loc} {ls : Array Slot} {k n : Nat} (hO : zOkG sg) (hC : zCi cI cJ cQ x0 sg C) (hR : zRi cI m0 sg Rr) (hP : va_P (dC, dI) vwCl (C ++ ((o0, .inl (cJ, 1, .inr (.inl fo))) :: Rr)) H) (hD : va_D (fun q : Nat => s.heap.size ≤ q) (C ++ ((o0, .inl (cJ, 1, .inr (.inl fo))) :: Rr))) (hS : va_S (fun q : Nat => s.heap.size ≤ q) s.heap H locs) (hl : lv_has ls 7 [(0, .ref b), (1, .ref x0), (2, .ref m0), (3, .ref o0), (4, .int i)]) (hi0 : 0 ≤ i.toInt) (hiL : i.toInt + 7 ≤ (L : Int)) (hk : k + 3 ≤ 601024) (hn : n + 300 ≤ 7293034) (J : ∀ (sg : zSy) (C Rr : va_W) (fo : Nat → Int64) (H : Heap) (locs : List Loc) (ls : Array Slot), zOkG sg → zCi cI cJ cQ x0 sg C → zRi cI m0 sg Rr → va_P (dC, dI) vwCl (C ++ ((o0, .inl (cJ, 1, .inr (.inl fo))) :: Rr)) H → va_D (fun q : Nat => s.heap.size ≤ q) (C ++ ((o0, .inl (cJ, 1, .inr (.inl fo))) :: Rr)) → va_S (fun q : Nat => s.heap.size ≤ q) s.heap H locs → lv_has ls 7 [(0, .ref b), (1, .ref x0), (2, .ref m0), (3, .ref o0), (4, .int i)] → W p l e room_1 s m #[Value.ref b] below meth c H locs (k + 3) (n + 300) (lw_Z below #[Value.ref b] s) (F0 m 1797 ls [])) : W p l e room_1 s m #[Value.ref b] below meth c H locs k n (lw_Z below #[Value.ref b] s) (F0 m 646 ls []) := by
  obtain ⟨hx, hb, hr, hml, hown, hts0, hX, hbl, hlocks, hgv⟩ := id C0
  have hts : ∀ w ∈ wA, w.before #[Value.ref b] s = true := fun w h => hts0 w (List.mem_filter.mp h).1
  have hown : s.vm.findClass RL = some m.cls := hown
  have hcf : CallFix p m c code 7 s #[Value.ref b] wA RL := ⟨hx, hb, hml, hown, hts⟩
  have hbA : ¬ (fun q : Nat => s.heap.size ≤ q) b := Nat.not_le.mpr hbl
  refine lv_aload_n hx hb dL_law_646 rfl (lv_at hl 1 rfl) ?_
  refine lv_aload_n hx hb dL_law_647 rfl (lv_at hl 0 rfl) ?_
  refine lv_iload hx hb dL_law_648 (lv_at hl 4 rfl) ?_
  refine lv_iconst (v := 1) hx hb dL_law_650 (by decide) ?_
  refine lv_iadd hx hb dL_law_651 ?_
  refine lv_topi (fun v651 e651 => ?_)
  have i651 : v651.toInt = i.toInt + 1 := zadd e651 rfl (by decide) (by omega) (by omega)
  refine va_sld hx hb hX hbl hbA hS (vp_in_iff.mpr ⟨by omega, by omega⟩) dL_law_652 ?_
  refine lv_topi (fun v652 e652 => ?_)
  refine lv_aload_n hx hb dL_law_653 rfl (lv_at hl 0 rfl) ?_
  refine lv_iload hx hb dL_law_654 (lv_at hl 4 rfl) ?_
  refine lv_iconst (v := 2) hx hb dL_law_656 (by decide) ?_
  refine lv_iadd hx hb dL_law_657 ?_
  refine lv_topi (fun v657 e657 => ?_)
  have i657 : v657.toInt = i.toInt + 2 := zadd e657 rfl (by decide) (by omega) (by omega)
  refine va_sld hx hb hX hbl hbA hS (vp_in_iff.mpr ⟨by omega, by omega⟩) dL_law_658 ?_
  refine lv_topi (fun v658 e658 => ?_)
  refine k_X10_pay (rest := []) hcf hK3 hV hC hO hP hD hS (fun _ h => h) hl.1 (Nat.le_of_ble_eq_true rfl) (by show k + 0 ≤ 601024; omega) (by show n + 0 ≤ 7293034; omega) dL_law_659 (fun v659 C H locs hv1 hC hP hD hS => ?_)
  refine lv_pop hx hb dL_law_662 rfl ?_
  refine lv_aload_n hx hb dL_law_663 rfl (lv_at hl 2 rfl) ?_
  refine lv_aload_n hx hb dL_law_664 rfl (lv_at hl 0 rfl) ?_
  refine lv_iload hx hb dL_law_665 (lv_at hl 4 rfl) ?_
  refine lv_iconst (v := 1) hx hb dL_law_667 (by decide) ?_
  refine lv_iadd hx hb dL_law_668 ?_
  refine lv_topi (fun v668 e668 => ?_)
  have i668 : v668.toInt = i.toInt + 1 := zadd e668 rfl (by decide) (by omega) (by omega)
  refine va_sld hx hb hX hbl hbA hS (vp_in_iff.mpr ⟨by omega, by omega⟩) dL_law_669 ?_
  refine lv_topi (fun v669 e669 => ?_)
  refine lv_aload_n hx hb dL_law_670 rfl (lv_at hl 0 rfl) ?_
  refine lv_iload hx hb dL_law_671 (lv_at hl 4 rfl) ?_
  refine lv_iconst (v := 2) hx hb dL_law_673 (by decide) ?_
  refine lv_iadd hx hb dL_law_674 ?_
  refine lv_topi (fun v674 e674 => ?_)
  have i674 : v674.toInt = i.toInt + 2 := zadd e674 rfl (by decide) (by omega) (by omega)
  refine va_sld hx hb hX hbl hbA hS (vp_in_iff.mpr ⟨by omega, by omega⟩) dL_law_675 ?_
  refine lv_topi (fun v675 e675 => ?_)
  have hP := zRotP hP
  have hD := zRotD hD
  refine k_X11_pay (rest := []) hcf hK3 hV hR hO hP hD hS (fun _ h => h) hl.1 (Nat.le_of_ble_eq_true rfl) (by show k + 0 ≤ 601024; omega) (by show n + 0 ≤ 7293034; omega) dL_law_676 (fun v676 Rr H locs hv2 hR hP hD hS => ?_)
  have hP := zRotP' hP
  have hD := zRotD' hD
  have ev0 : v669 = v652 := by rw [e669, e652, e668, e651]
  rw [ev0] at hv2 hR
  have ev1 : v675 = v658 := by rw [e675, e658, e674, e657]
  rw [ev1] at hv2 hR
  have er : v659.toInt = v676.toInt := congrArg Int32.toInt (hv1.trans hv2.symm)
  have hO : zOkG (sg.1, sg.2.1, sg.2.2.1, sg.2.2.2.1, sg.2.2.2.2.1, sDo (sW_pay sg.2.2.2.1.1.toInt sg.2.2.2.2.2.1.1 v652 v658) sg.2.2.2.2.2.1 (sSetY sg.2.2.2.2.2.1.1 v652.toInt.toNat (sg.2.2.2.2.2.1.1.1 v652.toInt.toNat + v658)), sg.2.2.2.2.2.2) := ⟨ok_pay hO.1, hO.2⟩
  refine lv_pop hx hb dL_law_679 rfl ?_
  refine lv_goto (tgt := 1797) hx hb dL_law_680 (by decide) ?_
  refine W.widen (k := k + 3) (n := n + 300) (by omega) (by omega) ?_
  exact J _ C Rr fo H locs ls hO hC hR hP hD hS (lv_sub hl [0, 1, 2, 3, 4] rfl)
set_option maxHeartbeats 4000000 in
set_option maxRecDepth 100000 in
theorem law_case_12 {p : Program} {l : Launch} {e : Env} {s : State} {m : MethodId} {below : List Frame} {meth : Method} {c : Code} {b L : Nat} {xs : Nat → Int32} {dC : Nat → ClassId} {dI : Nat → Nat → Nat} {cI cJ cQ : ClassId} {x0 m0 o0 : Nat} (hl0 : l.stackTraces = false) (C0 : lw_At p s m meth c b L xs) (hK3 : va_K (dC, dI) vwCl [(cI, .int), (cJ, .long), (cQ, .object "NinePortraits$Law")] s) (hV : zV (fun q : Nat => s.heap.size ≤ q) s) (hG : zG (fun q : Nat => s.heap.size ≤ q) s) (hCa : zCa s) (hL : L ≤ 3584) {sg : zSy} {C Rr : va_W} {fo : Nat → Int64} {i : Int32} {H : Heap} {locs : List Loc} {ls : Array Slot} {k n : Nat} (hO : zOkG sg) (hC : zCi cI cJ cQ x0 sg C) (hR : zRi cI m0 sg Rr) (hP : va_P (dC, dI) vwCl (C ++ ((o0, .inl (cJ, 1, .inr (.inl fo))) :: Rr)) H) (hD : va_D (fun q : Nat => s.heap.size ≤ q) (C ++ ((o0, .inl (cJ, 1, .inr (.inl fo))) :: Rr))) (hS : va_S (fun q : Nat => s.heap.size ≤ q) s.heap H locs) (hl : lv_has ls 7 [(0, .ref b), (1, .ref x0), (2, .ref m0), (3, .ref o0), (4, .int i)]) (hi0 : 0 ≤ i.toInt) (hiL : i.toInt + 7 ≤ (L : Int)) (hk : k + 3 ≤ 601024) (hn : n + 300 ≤ 7293034) (J : ∀ (sg : zSy) (C Rr : va_W) (fo : Nat → Int64) (H : Heap) (locs : List Loc) (ls : Array Slot), zOkG sg → zCi cI cJ cQ x0 sg C → zRi cI m0 sg Rr → va_P (dC, dI) vwCl (C ++ ((o0, .inl (cJ, 1, .inr (.inl fo))) :: Rr)) H → va_D (fun q : Nat => s.heap.size ≤ q) (C ++ ((o0, .inl (cJ, 1, .inr (.inl fo))) :: Rr)) → va_S (fun q : Nat => s.heap.size ≤ q) s.heap H locs → lv_has ls 7 [(0, .ref b), (1, .ref x0), (2, .ref m0), (3, .ref o0), (4, .int i)] → W p l e room_1 s m #[Value.ref b] below meth c H locs (k + 3) (n + 300) (lw_Z below #[Value.ref b] s) (F0 m 1797 ls [])) : W p l e room_1 s m #[Value.ref b] below meth c H locs k n (lw_Z below #[Value.ref b] s) (F0 m 683 ls []) := by
  obtain ⟨hx, hb, hr, hml, hown, hts0, hX, hbl, hlocks, hgv⟩ := id C0
  have hts : ∀ w ∈ wA, w.before #[Value.ref b] s = true := fun w h => hts0 w (List.mem_filter.mp h).1
  have hown : s.vm.findClass RL = some m.cls := hown
  have hcf : CallFix p m c code 7 s #[Value.ref b] wA RL := ⟨hx, hb, hml, hown, hts⟩
  have hbA : ¬ (fun q : Nat => s.heap.size ≤ q) b := Nat.not_le.mpr hbl
  refine lv_aload_n hx hb dL_law_683 rfl (lv_at hl 1 rfl) ?_
  refine lv_aload_n hx hb dL_law_684 rfl (lv_at hl 0 rfl) ?_
  refine lv_iload hx hb dL_law_685 (lv_at hl 4 rfl) ?_
  refine lv_iconst (v := 1) hx hb dL_law_687 (by decide) ?_
  refine lv_iadd hx hb dL_law_688 ?_
  refine lv_topi (fun v688 e688 => ?_)
  have i688 : v688.toInt = i.toInt + 1 := zadd e688 rfl (by decide) (by omega) (by omega)
  refine va_sld hx hb hX hbl hbA hS (vp_in_iff.mpr ⟨by omega, by omega⟩) dL_law_689 ?_
  refine lv_topi (fun v689 e689 => ?_)
  refine k_X10_threaten (rest := []) hcf hK3 hV hC hO hP hD hS (fun _ h => h) hl.1 (Nat.le_of_ble_eq_true rfl) (by show k + 0 ≤ 601024; omega) (by show n + 0 ≤ 7293034; omega) dL_law_690 (fun v690 C H locs hv1 hC hP hD hS => ?_)
  refine lv_pop hx hb dL_law_693 rfl ?_
  refine lv_aload_n hx hb dL_law_694 rfl (lv_at hl 2 rfl) ?_
  refine lv_aload_n hx hb dL_law_695 rfl (lv_at hl 0 rfl) ?_
  refine lv_iload hx hb dL_law_696 (lv_at hl 4 rfl) ?_
  refine lv_iconst (v := 1) hx hb dL_law_698 (by decide) ?_
  refine lv_iadd hx hb dL_law_699 ?_
  refine lv_topi (fun v699 e699 => ?_)
  have i699 : v699.toInt = i.toInt + 1 := zadd e699 rfl (by decide) (by omega) (by omega)
  refine va_sld hx hb hX hbl hbA hS (vp_in_iff.mpr ⟨by omega, by omega⟩) dL_law_700 ?_
  refine lv_topi (fun v700 e700 => ?_)
  have hP := zRotP hP
  have hD := zRotD hD
  refine k_X11_threaten (rest := []) hcf hK3 hV hR hO hP hD hS (fun _ h => h) hl.1 (Nat.le_of_ble_eq_true rfl) (by show k + 0 ≤ 601024; omega) (by show n + 0 ≤ 7293034; omega) dL_law_701 (fun v701 Rr H locs hv2 hR hP hD hS => ?_)
  have hP := zRotP' hP
  have hD := zRotD' hD
  have ev0 : v700 = v689 := by rw [e700, e689, e699, e688]
  rw [ev0] at hv2 hR
  have er : v690.toInt = v701.toInt := congrArg Int32.toInt (hv1.trans hv2.symm)
  have hO : zOkG (sg.1, sg.2.1, sg.2.2.1, sg.2.2.2.1, sg.2.2.2.2.1, sDo (sW_thr sg.2.2.2.1.2.1.toInt sg.2.2.2.2.2.1.1 v689) sg.2.2.2.2.2.1 (sSetF sg.2.2.2.2.2.1.1 v689.toInt.toNat (sg.2.2.2.2.2.1.1.2.1 v689.toInt.toNat + 1)), sg.2.2.2.2.2.2) := ⟨ok_thr hO.1, hO.2⟩
  refine lv_pop hx hb dL_law_704 rfl ?_
  refine lv_goto (tgt := 1797) hx hb dL_law_705 (by decide) ?_
  refine W.widen (k := k + 3) (n := n + 300) (by omega) (by omega) ?_
  exact J _ C Rr fo H locs ls hO hC hR hP hD hS (lv_sub hl [0, 1, 2, 3, 4] rfl)
set_option maxHeartbeats 4000000 in
set_option maxRecDepth 100000 in
theorem law_case_13 {p : Program} {l : Launch} {e : Env} {s : State} {m : MethodId} {below : List Frame} {meth : Method} {c : Code} {b L : Nat} {xs : Nat → Int32} {dC : Nat → ClassId} {dI : Nat → Nat → Nat} {cI cJ cQ : ClassId} {x0 m0 o0 : Nat} (hl0 : l.stackTraces = false) (C0 : lw_At p s m meth c b L xs) (hK3 : va_K (dC, dI) vwCl [(cI, .int), (cJ, .long), (cQ, .object "NinePortraits$Law")] s) (hV : zV (fun q : Nat => s.heap.size ≤ q) s) (hG : zG (fun q : Nat => s.heap.size ≤ q) s) (hCa : zCa s) (hL : L ≤ 3584) {sg : zSy} {C Rr : va_W} {fo : Nat → Int64} {i : Int32} {H : Heap} {locs : List Loc} {ls : Array Slot} {k n : Nat} (hO : zOkG sg) (hC : zCi cI cJ cQ x0 sg C) (hR : zRi cI m0 sg Rr) (hP : va_P (dC, dI) vwCl (C ++ ((o0, .inl (cJ, 1, .inr (.inl fo))) :: Rr)) H) (hD : va_D (fun q : Nat => s.heap.size ≤ q) (C ++ ((o0, .inl (cJ, 1, .inr (.inl fo))) :: Rr))) (hS : va_S (fun q : Nat => s.heap.size ≤ q) s.heap H locs) (hl : lv_has ls 7 [(0, .ref b), (1, .ref x0), (2, .ref m0), (3, .ref o0), (4, .int i)]) (hi0 : 0 ≤ i.toInt) (hiL : i.toInt + 7 ≤ (L : Int)) (hk : k + 3 ≤ 601024) (hn : n + 300 ≤ 7293034) (J : ∀ (sg : zSy) (C Rr : va_W) (fo : Nat → Int64) (H : Heap) (locs : List Loc) (ls : Array Slot), zOkG sg → zCi cI cJ cQ x0 sg C → zRi cI m0 sg Rr → va_P (dC, dI) vwCl (C ++ ((o0, .inl (cJ, 1, .inr (.inl fo))) :: Rr)) H → va_D (fun q : Nat => s.heap.size ≤ q) (C ++ ((o0, .inl (cJ, 1, .inr (.inl fo))) :: Rr)) → va_S (fun q : Nat => s.heap.size ≤ q) s.heap H locs → lv_has ls 7 [(0, .ref b), (1, .ref x0), (2, .ref m0), (3, .ref o0), (4, .int i)] → W p l e room_1 s m #[Value.ref b] below meth c H locs (k + 3) (n + 300) (lw_Z below #[Value.ref b] s) (F0 m 1797 ls [])) : W p l e room_1 s m #[Value.ref b] below meth c H locs k n (lw_Z below #[Value.ref b] s) (F0 m 708 ls []) := by
  obtain ⟨hx, hb, hr, hml, hown, hts0, hX, hbl, hlocks, hgv⟩ := id C0
  have hts : ∀ w ∈ wA, w.before #[Value.ref b] s = true := fun w h => hts0 w (List.mem_filter.mp h).1
  have hown : s.vm.findClass RL = some m.cls := hown
  have hcf : CallFix p m c code 7 s #[Value.ref b] wA RL := ⟨hx, hb, hml, hown, hts⟩
  have hbA : ¬ (fun q : Nat => s.heap.size ≤ q) b := Nat.not_le.mpr hbl
  refine lv_aload_n hx hb dL_law_708 rfl (lv_at hl 1 rfl) ?_
  refine lv_aload_n hx hb dL_law_709 rfl (lv_at hl 0 rfl) ?_
  refine lv_iload hx hb dL_law_710 (lv_at hl 4 rfl) ?_
  refine lv_iconst (v := 1) hx hb dL_law_712 (by decide) ?_
  refine lv_iadd hx hb dL_law_713 ?_
  refine lv_topi (fun v713 e713 => ?_)
  have i713 : v713.toInt = i.toInt + 1 := zadd e713 rfl (by decide) (by omega) (by omega)
  refine va_sld hx hb hX hbl hbA hS (vp_in_iff.mpr ⟨by omega, by omega⟩) dL_law_714 ?_
  refine lv_topi (fun v714 e714 => ?_)
  refine k_X10_letter (rest := []) hcf hK3 hV hC hO hP hD hS (fun _ h => h) hl.1 (Nat.le_of_ble_eq_true rfl) (by show k + 0 ≤ 601024; omega) (by show n + 0 ≤ 7293034; omega) dL_law_715 (fun v715 C H locs hv1 hC hP hD hS => ?_)
  refine lv_pop hx hb dL_law_718 rfl ?_
  refine lv_aload_n hx hb dL_law_719 rfl (lv_at hl 2 rfl) ?_
  refine lv_aload_n hx hb dL_law_720 rfl (lv_at hl 0 rfl) ?_
  refine lv_iload hx hb dL_law_721 (lv_at hl 4 rfl) ?_
  refine lv_iconst (v := 1) hx hb dL_law_723 (by decide) ?_
  refine lv_iadd hx hb dL_law_724 ?_
  refine lv_topi (fun v724 e724 => ?_)
  have i724 : v724.toInt = i.toInt + 1 := zadd e724 rfl (by decide) (by omega) (by omega)
  refine va_sld hx hb hX hbl hbA hS (vp_in_iff.mpr ⟨by omega, by omega⟩) dL_law_725 ?_
  refine lv_topi (fun v725 e725 => ?_)
  have hP := zRotP hP
  have hD := zRotD hD
  refine k_X11_letter (rest := []) hcf hK3 hV hR hO hP hD hS (fun _ h => h) hl.1 (Nat.le_of_ble_eq_true rfl) (by show k + 0 ≤ 601024; omega) (by show n + 0 ≤ 7293034; omega) dL_law_726 (fun v726 Rr H locs hv2 hR hP hD hS => ?_)
  have hP := zRotP' hP
  have hD := zRotD' hD
  have ev0 : v725 = v714 := by rw [e725, e714, e724, e713]
  rw [ev0] at hv2 hR
  have er : v715.toInt = v726.toInt := congrArg Int32.toInt (hv1.trans hv2.symm)
  have hO : zOkG (sg.1, sg.2.1, sg.2.2.1, sg.2.2.2.1, sg.2.2.2.2.1, sDo (sW_tld sg.2.2.2.1.1.toInt sg.2.2.2.2.2.1.1 sg.2.2.2.2.2.1.1.2.2.1.1 v714 2) sg.2.2.2.2.2.1 (sN_ltr sg.2.2.2.2.2.1.1 v714), sg.2.2.2.2.2.2) := ⟨ok_ltr hO.1, hO.2⟩
  refine lv_pop hx hb dL_law_729 rfl ?_
  refine lv_goto (tgt := 1797) hx hb dL_law_730 (by decide) ?_
  refine W.widen (k := k + 3) (n := n + 300) (by omega) (by omega) ?_
  exact J _ C Rr fo H locs ls hO hC hR hP hD hS (lv_sub hl [0, 1, 2, 3, 4] rfl)
set_option maxHeartbeats 4000000 in
set_option maxRecDepth 100000 in
theorem law_case_14 {p : Program} {l : Launch} {e : Env} {s : State} {m : MethodId} {below : List Frame} {meth : Method} {c : Code} {b L : Nat} {xs : Nat → Int32} {dC : Nat → ClassId} {dI : Nat → Nat → Nat} {cI cJ cQ : ClassId} {x0 m0 o0 : Nat} (hl0 : l.stackTraces = false) (C0 : lw_At p s m meth c b L xs) (hK3 : va_K (dC, dI) vwCl [(cI, .int), (cJ, .long), (cQ, .object "NinePortraits$Law")] s) (hV : zV (fun q : Nat => s.heap.size ≤ q) s) (hG : zG (fun q : Nat => s.heap.size ≤ q) s) (hCa : zCa s) (hL : L ≤ 3584) {sg : zSy} {C Rr : va_W} {fo : Nat → Int64} {i : Int32} {H : Heap} {locs : List Loc} {ls : Array Slot} {k n : Nat} (hO : zOkG sg) (hC : zCi cI cJ cQ x0 sg C) (hR : zRi cI m0 sg Rr) (hP : va_P (dC, dI) vwCl (C ++ ((o0, .inl (cJ, 1, .inr (.inl fo))) :: Rr)) H) (hD : va_D (fun q : Nat => s.heap.size ≤ q) (C ++ ((o0, .inl (cJ, 1, .inr (.inl fo))) :: Rr))) (hS : va_S (fun q : Nat => s.heap.size ≤ q) s.heap H locs) (hl : lv_has ls 7 [(0, .ref b), (1, .ref x0), (2, .ref m0), (3, .ref o0), (4, .int i)]) (hi0 : 0 ≤ i.toInt) (hiL : i.toInt + 7 ≤ (L : Int)) (hk : k + 3 ≤ 601024) (hn : n + 300 ≤ 7293034) (J : ∀ (sg : zSy) (C Rr : va_W) (fo : Nat → Int64) (H : Heap) (locs : List Loc) (ls : Array Slot), zOkG sg → zCi cI cJ cQ x0 sg C → zRi cI m0 sg Rr → va_P (dC, dI) vwCl (C ++ ((o0, .inl (cJ, 1, .inr (.inl fo))) :: Rr)) H → va_D (fun q : Nat => s.heap.size ≤ q) (C ++ ((o0, .inl (cJ, 1, .inr (.inl fo))) :: Rr)) → va_S (fun q : Nat => s.heap.size ≤ q) s.heap H locs → lv_has ls 7 [(0, .ref b), (1, .ref x0), (2, .ref m0), (3, .ref o0), (4, .int i)] → W p l e room_1 s m #[Value.ref b] below meth c H locs (k + 3) (n + 300) (lw_Z below #[Value.ref b] s) (F0 m 1797 ls [])) : W p l e room_1 s m #[Value.ref b] below meth c H locs k n (lw_Z below #[Value.ref b] s) (F0 m 733 ls []) := by
  obtain ⟨hx, hb, hr, hml, hown, hts0, hX, hbl, hlocks, hgv⟩ := id C0
  have hts : ∀ w ∈ wA, w.before #[Value.ref b] s = true := fun w h => hts0 w (List.mem_filter.mp h).1
  have hown : s.vm.findClass RL = some m.cls := hown
  have hcf : CallFix p m c code 7 s #[Value.ref b] wA RL := ⟨hx, hb, hml, hown, hts⟩
  have hbA : ¬ (fun q : Nat => s.heap.size ≤ q) b := Nat.not_le.mpr hbl
  refine lv_aload_n hx hb dL_law_733 rfl (lv_at hl 1 rfl) ?_
  refine lv_aload_n hx hb dL_law_734 rfl (lv_at hl 0 rfl) ?_
  refine lv_iload hx hb dL_law_735 (lv_at hl 4 rfl) ?_
  refine lv_iconst (v := 1) hx hb dL_law_737 (by decide) ?_
  refine lv_iadd hx hb dL_law_738 ?_
  refine lv_topi (fun v738 e738 => ?_)
  have i738 : v738.toInt = i.toInt + 1 := zadd e738 rfl (by decide) (by omega) (by omega)
  refine va_sld hx hb hX hbl hbA hS (vp_in_iff.mpr ⟨by omega, by omega⟩) dL_law_739 ?_
  refine lv_topi (fun v739 e739 => ?_)
  refine k_X10_shoe (rest := []) hcf hK3 hV hC hO hP hD hS (fun _ h => h) hl.1 (Nat.le_of_ble_eq_true rfl) (by show k + 0 ≤ 601024; omega) (by show n + 0 ≤ 7293034; omega) dL_law_740 (fun v740 C H locs hv1 hC hP hD hS => ?_)
  refine lv_pop hx hb dL_law_743 rfl ?_
  refine lv_aload_n hx hb dL_law_744 rfl (lv_at hl 2 rfl) ?_
  refine lv_aload_n hx hb dL_law_745 rfl (lv_at hl 0 rfl) ?_
  refine lv_iload hx hb dL_law_746 (lv_at hl 4 rfl) ?_
  refine lv_iconst (v := 1) hx hb dL_law_748 (by decide) ?_
  refine lv_iadd hx hb dL_law_749 ?_
  refine lv_topi (fun v749 e749 => ?_)
  have i749 : v749.toInt = i.toInt + 1 := zadd e749 rfl (by decide) (by omega) (by omega)
  refine va_sld hx hb hX hbl hbA hS (vp_in_iff.mpr ⟨by omega, by omega⟩) dL_law_750 ?_
  refine lv_topi (fun v750 e750 => ?_)
  have hP := zRotP hP
  have hD := zRotD hD
  refine k_X11_shoe (rest := []) hcf hK3 hV hR hO hP hD hS (fun _ h => h) hl.1 (Nat.le_of_ble_eq_true rfl) (by show k + 0 ≤ 601024; omega) (by show n + 0 ≤ 7293034; omega) dL_law_751 (fun v751 Rr H locs hv2 hR hP hD hS => ?_)
  have hP := zRotP' hP
  have hD := zRotD' hD
  have ev0 : v750 = v739 := by rw [e750, e739, e749, e738]
  rw [ev0] at hv2 hR
  have er : v740.toInt = v751.toInt := congrArg Int32.toInt (hv1.trans hv2.symm)
  have hO : zOkG (sg.1, sg.2.1, sg.2.2.1, sg.2.2.2.1, sg.2.2.2.2.1, sDo (sW_tld sg.2.2.2.1.1.toInt sg.2.2.2.2.2.1.1 sg.2.2.2.2.2.1.1.2.2.1.2.1 v739 1) sg.2.2.2.2.2.1 (sN_sho sg.2.2.2.2.2.1.1 v739), sg.2.2.2.2.2.2) := ⟨ok_sho hO.1, hO.2⟩
  refine lv_pop hx hb dL_law_754 rfl ?_
  refine lv_goto (tgt := 1797) hx hb dL_law_755 (by decide) ?_
  refine W.widen (k := k + 3) (n := n + 300) (by omega) (by omega) ?_
  exact J _ C Rr fo H locs ls hO hC hR hP hD hS (lv_sub hl [0, 1, 2, 3, 4] rfl)
set_option maxHeartbeats 4000000 in
set_option maxRecDepth 100000 in
theorem law_case_15 {p : Program} {l : Launch} {e : Env} {s : State} {m : MethodId} {below : List Frame} {meth : Method} {c : Code} {b L : Nat} {xs : Nat → Int32} {dC : Nat → ClassId} {dI : Nat → Nat → Nat} {cI cJ cQ : ClassId} {x0 m0 o0 : Nat} (hl0 : l.stackTraces = false) (C0 : lw_At p s m meth c b L xs) (hK3 : va_K (dC, dI) vwCl [(cI, .int), (cJ, .long), (cQ, .object "NinePortraits$Law")] s) (hV : zV (fun q : Nat => s.heap.size ≤ q) s) (hG : zG (fun q : Nat => s.heap.size ≤ q) s) (hCa : zCa s) (hL : L ≤ 3584) {sg : zSy} {C Rr : va_W} {fo : Nat → Int64} {i : Int32} {H : Heap} {locs : List Loc} {ls : Array Slot} {k n : Nat} (hO : zOkG sg) (hC : zCi cI cJ cQ x0 sg C) (hR : zRi cI m0 sg Rr) (hP : va_P (dC, dI) vwCl (C ++ ((o0, .inl (cJ, 1, .inr (.inl fo))) :: Rr)) H) (hD : va_D (fun q : Nat => s.heap.size ≤ q) (C ++ ((o0, .inl (cJ, 1, .inr (.inl fo))) :: Rr))) (hS : va_S (fun q : Nat => s.heap.size ≤ q) s.heap H locs) (hl : lv_has ls 7 [(0, .ref b), (1, .ref x0), (2, .ref m0), (3, .ref o0), (4, .int i)]) (hi0 : 0 ≤ i.toInt) (hiL : i.toInt + 7 ≤ (L : Int)) (hk : k + 3 ≤ 601024) (hn : n + 300 ≤ 7293034) (J : ∀ (sg : zSy) (C Rr : va_W) (fo : Nat → Int64) (H : Heap) (locs : List Loc) (ls : Array Slot), zOkG sg → zCi cI cJ cQ x0 sg C → zRi cI m0 sg Rr → va_P (dC, dI) vwCl (C ++ ((o0, .inl (cJ, 1, .inr (.inl fo))) :: Rr)) H → va_D (fun q : Nat => s.heap.size ≤ q) (C ++ ((o0, .inl (cJ, 1, .inr (.inl fo))) :: Rr)) → va_S (fun q : Nat => s.heap.size ≤ q) s.heap H locs → lv_has ls 7 [(0, .ref b), (1, .ref x0), (2, .ref m0), (3, .ref o0), (4, .int i)] → W p l e room_1 s m #[Value.ref b] below meth c H locs (k + 3) (n + 300) (lw_Z below #[Value.ref b] s) (F0 m 1797 ls [])) : W p l e room_1 s m #[Value.ref b] below meth c H locs k n (lw_Z below #[Value.ref b] s) (F0 m 758 ls []) := by
  obtain ⟨hx, hb, hr, hml, hown, hts0, hX, hbl, hlocks, hgv⟩ := id C0
  have hts : ∀ w ∈ wA, w.before #[Value.ref b] s = true := fun w h => hts0 w (List.mem_filter.mp h).1
  have hown : s.vm.findClass RL = some m.cls := hown
  have hcf : CallFix p m c code 7 s #[Value.ref b] wA RL := ⟨hx, hb, hml, hown, hts⟩
  have hbA : ¬ (fun q : Nat => s.heap.size ≤ q) b := Nat.not_le.mpr hbl
  refine lv_aload_n hx hb dL_law_758 rfl (lv_at hl 1 rfl) ?_
  refine lv_aload_n hx hb dL_law_759 rfl (lv_at hl 0 rfl) ?_
  refine lv_iload hx hb dL_law_760 (lv_at hl 4 rfl) ?_
  refine lv_iconst (v := 1) hx hb dL_law_762 (by decide) ?_
  refine lv_iadd hx hb dL_law_763 ?_
  refine lv_topi (fun v763 e763 => ?_)
  have i763 : v763.toInt = i.toInt + 1 := zadd e763 rfl (by decide) (by omega) (by omega)
  refine va_sld hx hb hX hbl hbA hS (vp_in_iff.mpr ⟨by omega, by omega⟩) dL_law_764 ?_
  refine lv_topi (fun v764 e764 => ?_)
  refine k_X10_wed (rest := []) hcf hK3 hV hC hO hP hD hS (fun _ h => h) hl.1 (Nat.le_of_ble_eq_true rfl) (by show k + 0 ≤ 601024; omega) (by show n + 0 ≤ 7293034; omega) dL_law_765 (fun v765 C H locs hv1 hC hP hD hS => ?_)
  refine lv_pop hx hb dL_law_768 rfl ?_
  refine lv_aload_n hx hb dL_law_769 rfl (lv_at hl 2 rfl) ?_
  refine lv_aload_n hx hb dL_law_770 rfl (lv_at hl 0 rfl) ?_
  refine lv_iload hx hb dL_law_771 (lv_at hl 4 rfl) ?_
  refine lv_iconst (v := 1) hx hb dL_law_773 (by decide) ?_
  refine lv_iadd hx hb dL_law_774 ?_
  refine lv_topi (fun v774 e774 => ?_)
  have i774 : v774.toInt = i.toInt + 1 := zadd e774 rfl (by decide) (by omega) (by omega)
  refine va_sld hx hb hX hbl hbA hS (vp_in_iff.mpr ⟨by omega, by omega⟩) dL_law_775 ?_
  refine lv_topi (fun v775 e775 => ?_)
  have hP := zRotP hP
  have hD := zRotD hD
  refine k_X11_wed (rest := []) hcf hK3 hV hR hO hP hD hS (fun _ h => h) hl.1 (Nat.le_of_ble_eq_true rfl) (by show k + 0 ≤ 601024; omega) (by show n + 0 ≤ 7293034; omega) dL_law_776 (fun v776 Rr H locs hv2 hR hP hD hS => ?_)
  have hP := zRotP' hP
  have hD := zRotD' hD
  have ev0 : v775 = v764 := by rw [e775, e764, e774, e763]
  rw [ev0] at hv2 hR
  have er : v765.toInt = v776.toInt := congrArg Int32.toInt (hv1.trans hv2.symm)
  have hO : zOkG (sg.1, sg.2.1, sg.2.2.1, sg.2.2.2.1, sg.2.2.2.2.1, sDo (sW_wed sg.2.2.2.1.1.toInt sg.2.2.2.2.2.1.1 v764) sg.2.2.2.2.2.1 (sN_wed sg.2.2.2.1.2.2 sg.2.2.2.2.2.1.1 v764), sg.2.2.2.2.2.2) := ⟨ok_wed hO.1, hO.2⟩
  refine lv_pop hx hb dL_law_779 rfl ?_
  refine lv_goto (tgt := 1797) hx hb dL_law_780 (by decide) ?_
  refine W.widen (k := k + 3) (n := n + 300) (by omega) (by omega) ?_
  exact J _ C Rr fo H locs ls hO hC hR hP hD hS (lv_sub hl [0, 1, 2, 3, 4] rfl)
set_option maxHeartbeats 4000000 in
set_option maxRecDepth 100000 in
theorem law_case_16 {p : Program} {l : Launch} {e : Env} {s : State} {m : MethodId} {below : List Frame} {meth : Method} {c : Code} {b L : Nat} {xs : Nat → Int32} {dC : Nat → ClassId} {dI : Nat → Nat → Nat} {cI cJ cQ : ClassId} {x0 m0 o0 : Nat} (hl0 : l.stackTraces = false) (C0 : lw_At p s m meth c b L xs) (hK3 : va_K (dC, dI) vwCl [(cI, .int), (cJ, .long), (cQ, .object "NinePortraits$Law")] s) (hV : zV (fun q : Nat => s.heap.size ≤ q) s) (hG : zG (fun q : Nat => s.heap.size ≤ q) s) (hCa : zCa s) (hL : L ≤ 3584) {sg : zSy} {C Rr : va_W} {fo : Nat → Int64} {i : Int32} {H : Heap} {locs : List Loc} {ls : Array Slot} {k n : Nat} (hO : zOkG sg) (hC : zCi cI cJ cQ x0 sg C) (hR : zRi cI m0 sg Rr) (hP : va_P (dC, dI) vwCl (C ++ ((o0, .inl (cJ, 1, .inr (.inl fo))) :: Rr)) H) (hD : va_D (fun q : Nat => s.heap.size ≤ q) (C ++ ((o0, .inl (cJ, 1, .inr (.inl fo))) :: Rr))) (hS : va_S (fun q : Nat => s.heap.size ≤ q) s.heap H locs) (hl : lv_has ls 7 [(0, .ref b), (1, .ref x0), (2, .ref m0), (3, .ref o0), (4, .int i)]) (hi0 : 0 ≤ i.toInt) (hiL : i.toInt + 7 ≤ (L : Int)) (hk : k + 3 ≤ 601024) (hn : n + 300 ≤ 7293034) (J : ∀ (sg : zSy) (C Rr : va_W) (fo : Nat → Int64) (H : Heap) (locs : List Loc) (ls : Array Slot), zOkG sg → zCi cI cJ cQ x0 sg C → zRi cI m0 sg Rr → va_P (dC, dI) vwCl (C ++ ((o0, .inl (cJ, 1, .inr (.inl fo))) :: Rr)) H → va_D (fun q : Nat => s.heap.size ≤ q) (C ++ ((o0, .inl (cJ, 1, .inr (.inl fo))) :: Rr)) → va_S (fun q : Nat => s.heap.size ≤ q) s.heap H locs → lv_has ls 7 [(0, .ref b), (1, .ref x0), (2, .ref m0), (3, .ref o0), (4, .int i)] → W p l e room_1 s m #[Value.ref b] below meth c H locs (k + 3) (n + 300) (lw_Z below #[Value.ref b] s) (F0 m 1797 ls [])) : W p l e room_1 s m #[Value.ref b] below meth c H locs k n (lw_Z below #[Value.ref b] s) (F0 m 783 ls []) := by
  obtain ⟨hx, hb, hr, hml, hown, hts0, hX, hbl, hlocks, hgv⟩ := id C0
  have hts : ∀ w ∈ wA, w.before #[Value.ref b] s = true := fun w h => hts0 w (List.mem_filter.mp h).1
  have hown : s.vm.findClass RL = some m.cls := hown
  have hcf : CallFix p m c code 7 s #[Value.ref b] wA RL := ⟨hx, hb, hml, hown, hts⟩
  have hbA : ¬ (fun q : Nat => s.heap.size ≤ q) b := Nat.not_le.mpr hbl
  refine lv_aload_n hx hb dL_law_783 rfl (lv_at hl 1 rfl) ?_
  refine k_X10_annul (rest := []) hcf hK3 hV hC hO hP hD hS (fun _ h => h) hl.1 (Nat.le_of_ble_eq_true rfl) (by show k + 0 ≤ 601024; omega) (by show n + 0 ≤ 7293034; omega) dL_law_784 (fun v784 C H locs hv1 hC hP hD hS => ?_)
  refine lv_pop hx hb dL_law_787 rfl ?_
  refine lv_aload_n hx hb dL_law_788 rfl (lv_at hl 2 rfl) ?_
  have hP := zRotP hP
  have hD := zRotD hD
  refine k_X11_annul (rest := []) hcf hK3 hV hR hO hP hD hS (fun _ h => h) hl.1 (Nat.le_of_ble_eq_true rfl) (by show k + 0 ≤ 601024; omega) (by show n + 0 ≤ 7293034; omega) dL_law_789 (fun v789 Rr H locs hv2 hR hP hD hS => ?_)
  have hP := zRotP' hP
  have hD := zRotD' hD
  have er : v784.toInt = v789.toInt := congrArg Int32.toInt (hv1.trans hv2.symm)
  have hO : zOkG (sg.1, sg.2.1, sg.2.2.1, sg.2.2.2.1, sg.2.2.2.2.1, sDo (sW_ann sg.2.2.2.1.1.toInt sg.2.2.2.1.2.2 sg.2.2.2.2.2.1.1) sg.2.2.2.2.2.1 (sN_ann sg.2.2.2.2.2.1.1), sg.2.2.2.2.2.2) := ⟨ok_ann hO.1, hO.2⟩
  refine lv_pop hx hb dL_law_792 rfl ?_
  refine lv_goto (tgt := 1797) hx hb dL_law_793 (by decide) ?_
  refine W.widen (k := k + 3) (n := n + 300) (by omega) (by omega) ?_
  exact J _ C Rr fo H locs ls hO hC hR hP hD hS (lv_sub hl [0, 1, 2, 3, 4] rfl)
set_option maxHeartbeats 4000000 in
set_option maxRecDepth 100000 in
theorem law_case_17 {p : Program} {l : Launch} {e : Env} {s : State} {m : MethodId} {below : List Frame} {meth : Method} {c : Code} {b L : Nat} {xs : Nat → Int32} {dC : Nat → ClassId} {dI : Nat → Nat → Nat} {cI cJ cQ : ClassId} {x0 m0 o0 : Nat} (hl0 : l.stackTraces = false) (C0 : lw_At p s m meth c b L xs) (hK3 : va_K (dC, dI) vwCl [(cI, .int), (cJ, .long), (cQ, .object "NinePortraits$Law")] s) (hV : zV (fun q : Nat => s.heap.size ≤ q) s) (hG : zG (fun q : Nat => s.heap.size ≤ q) s) (hCa : zCa s) (hL : L ≤ 3584) {sg : zSy} {C Rr : va_W} {fo : Nat → Int64} {i : Int32} {H : Heap} {locs : List Loc} {ls : Array Slot} {k n : Nat} (hO : zOkG sg) (hC : zCi cI cJ cQ x0 sg C) (hR : zRi cI m0 sg Rr) (hP : va_P (dC, dI) vwCl (C ++ ((o0, .inl (cJ, 1, .inr (.inl fo))) :: Rr)) H) (hD : va_D (fun q : Nat => s.heap.size ≤ q) (C ++ ((o0, .inl (cJ, 1, .inr (.inl fo))) :: Rr))) (hS : va_S (fun q : Nat => s.heap.size ≤ q) s.heap H locs) (hl : lv_has ls 7 [(0, .ref b), (1, .ref x0), (2, .ref m0), (3, .ref o0), (4, .int i)]) (hi0 : 0 ≤ i.toInt) (hiL : i.toInt + 7 ≤ (L : Int)) (hk : k + 3 ≤ 601024) (hn : n + 300 ≤ 7293034) (J : ∀ (sg : zSy) (C Rr : va_W) (fo : Nat → Int64) (H : Heap) (locs : List Loc) (ls : Array Slot), zOkG sg → zCi cI cJ cQ x0 sg C → zRi cI m0 sg Rr → va_P (dC, dI) vwCl (C ++ ((o0, .inl (cJ, 1, .inr (.inl fo))) :: Rr)) H → va_D (fun q : Nat => s.heap.size ≤ q) (C ++ ((o0, .inl (cJ, 1, .inr (.inl fo))) :: Rr)) → va_S (fun q : Nat => s.heap.size ≤ q) s.heap H locs → lv_has ls 7 [(0, .ref b), (1, .ref x0), (2, .ref m0), (3, .ref o0), (4, .int i)] → W p l e room_1 s m #[Value.ref b] below meth c H locs (k + 3) (n + 300) (lw_Z below #[Value.ref b] s) (F0 m 1797 ls [])) : W p l e room_1 s m #[Value.ref b] below meth c H locs k n (lw_Z below #[Value.ref b] s) (F0 m 796 ls []) := by
  obtain ⟨hx, hb, hr, hml, hown, hts0, hX, hbl, hlocks, hgv⟩ := id C0
  have hts : ∀ w ∈ wA, w.before #[Value.ref b] s = true := fun w h => hts0 w (List.mem_filter.mp h).1
  have hown : s.vm.findClass RL = some m.cls := hown
  have hcf : CallFix p m c code 7 s #[Value.ref b] wA RL := ⟨hx, hb, hml, hown, hts⟩
  have hbA : ¬ (fun q : Nat => s.heap.size ≤ q) b := Nat.not_le.mpr hbl
  refine lv_aload_n hx hb dL_law_796 rfl (lv_at hl 1 rfl) ?_
  refine lv_aload_n hx hb dL_law_797 rfl (lv_at hl 0 rfl) ?_
  refine lv_iload hx hb dL_law_798 (lv_at hl 4 rfl) ?_
  refine lv_iconst (v := 1) hx hb dL_law_800 (by decide) ?_
  refine lv_iadd hx hb dL_law_801 ?_
  refine lv_topi (fun v801 e801 => ?_)
  have i801 : v801.toInt = i.toInt + 1 := zadd e801 rfl (by decide) (by omega) (by omega)
  refine va_sld hx hb hX hbl hbA hS (vp_in_iff.mpr ⟨by omega, by omega⟩) dL_law_802 ?_
  refine lv_topi (fun v802 e802 => ?_)
  refine k_X10_months (rest := []) hcf hK3 hV hC hO hP hD hS (fun _ h => h) hl.1 (Nat.le_of_ble_eq_true rfl) (by show k + 0 ≤ 601024; omega) (by show n + 0 ≤ 7293034; omega) dL_law_803 (fun v803 C H locs hv1 hC hP hD hS => ?_)
  refine lv_pop hx hb dL_law_806 rfl ?_
  refine lv_aload_n hx hb dL_law_807 rfl (lv_at hl 2 rfl) ?_
  refine lv_aload_n hx hb dL_law_808 rfl (lv_at hl 0 rfl) ?_
  refine lv_iload hx hb dL_law_809 (lv_at hl 4 rfl) ?_
  refine lv_iconst (v := 1) hx hb dL_law_811 (by decide) ?_
  refine lv_iadd hx hb dL_law_812 ?_
  refine lv_topi (fun v812 e812 => ?_)
  have i812 : v812.toInt = i.toInt + 1 := zadd e812 rfl (by decide) (by omega) (by omega)
  refine va_sld hx hb hX hbl hbA hS (vp_in_iff.mpr ⟨by omega, by omega⟩) dL_law_813 ?_
  refine lv_topi (fun v813 e813 => ?_)
  have hP := zRotP hP
  have hD := zRotD hD
  refine k_X11_months (rest := []) hcf hK3 hV hR hO hP hD hS (fun _ h => h) hl.1 (Nat.le_of_ble_eq_true rfl) (by show k + 0 ≤ 601024; omega) (by show n + 0 ≤ 7293034; omega) dL_law_814 (fun v814 Rr H locs hv2 hR hP hD hS => ?_)
  have hP := zRotP' hP
  have hD := zRotD' hD
  have ev0 : v813 = v802 := by rw [e813, e802, e812, e801]
  rw [ev0] at hv2 hR
  have er : v803.toInt = v814.toInt := congrArg Int32.toInt (hv1.trans hv2.symm)
  have hO : zOkG (sg.1, sg.2.1, sg.2.2.1, sg.2.2.2.1, sg.2.2.2.2.1, sT_mon sg.2.2.2.1.1.toInt sg.2.2.2.2.2.1 v802, sg.2.2.2.2.2.2) := ⟨ok_mon hO.1, hO.2⟩
  refine lv_pop hx hb dL_law_817 rfl ?_
  refine lv_goto (tgt := 1797) hx hb dL_law_818 (by decide) ?_
  refine W.widen (k := k + 3) (n := n + 300) (by omega) (by omega) ?_
  exact J _ C Rr fo H locs ls hO hC hR hP hD hS (lv_sub hl [0, 1, 2, 3, 4] rfl)
set_option maxHeartbeats 4000000 in
set_option maxRecDepth 100000 in
theorem law_case_18 {p : Program} {l : Launch} {e : Env} {s : State} {m : MethodId} {below : List Frame} {meth : Method} {c : Code} {b L : Nat} {xs : Nat → Int32} {dC : Nat → ClassId} {dI : Nat → Nat → Nat} {cI cJ cQ : ClassId} {x0 m0 o0 : Nat} (hl0 : l.stackTraces = false) (C0 : lw_At p s m meth c b L xs) (hK3 : va_K (dC, dI) vwCl [(cI, .int), (cJ, .long), (cQ, .object "NinePortraits$Law")] s) (hV : zV (fun q : Nat => s.heap.size ≤ q) s) (hG : zG (fun q : Nat => s.heap.size ≤ q) s) (hCa : zCa s) (hL : L ≤ 3584) {sg : zSy} {C Rr : va_W} {fo : Nat → Int64} {i : Int32} {H : Heap} {locs : List Loc} {ls : Array Slot} {k n : Nat} (hO : zOkG sg) (hC : zCi cI cJ cQ x0 sg C) (hR : zRi cI m0 sg Rr) (hP : va_P (dC, dI) vwCl (C ++ ((o0, .inl (cJ, 1, .inr (.inl fo))) :: Rr)) H) (hD : va_D (fun q : Nat => s.heap.size ≤ q) (C ++ ((o0, .inl (cJ, 1, .inr (.inl fo))) :: Rr))) (hS : va_S (fun q : Nat => s.heap.size ≤ q) s.heap H locs) (hl : lv_has ls 7 [(0, .ref b), (1, .ref x0), (2, .ref m0), (3, .ref o0), (4, .int i)]) (hi0 : 0 ≤ i.toInt) (hiL : i.toInt + 7 ≤ (L : Int)) (hk : k + 3 ≤ 601024) (hn : n + 300 ≤ 7293034) (J : ∀ (sg : zSy) (C Rr : va_W) (fo : Nat → Int64) (H : Heap) (locs : List Loc) (ls : Array Slot), zOkG sg → zCi cI cJ cQ x0 sg C → zRi cI m0 sg Rr → va_P (dC, dI) vwCl (C ++ ((o0, .inl (cJ, 1, .inr (.inl fo))) :: Rr)) H → va_D (fun q : Nat => s.heap.size ≤ q) (C ++ ((o0, .inl (cJ, 1, .inr (.inl fo))) :: Rr)) → va_S (fun q : Nat => s.heap.size ≤ q) s.heap H locs → lv_has ls 7 [(0, .ref b), (1, .ref x0), (2, .ref m0), (3, .ref o0), (4, .int i)] → W p l e room_1 s m #[Value.ref b] below meth c H locs (k + 3) (n + 300) (lw_Z below #[Value.ref b] s) (F0 m 1797 ls [])) : W p l e room_1 s m #[Value.ref b] below meth c H locs k n (lw_Z below #[Value.ref b] s) (F0 m 821 ls []) := by
  obtain ⟨hx, hb, hr, hml, hown, hts0, hX, hbl, hlocks, hgv⟩ := id C0
  have hts : ∀ w ∈ wA, w.before #[Value.ref b] s = true := fun w h => hts0 w (List.mem_filter.mp h).1
  have hown : s.vm.findClass RL = some m.cls := hown
  have hcf : CallFix p m c code 7 s #[Value.ref b] wA RL := ⟨hx, hb, hml, hown, hts⟩
  have hbA : ¬ (fun q : Nat => s.heap.size ≤ q) b := Nat.not_le.mpr hbl
  refine lv_aload_n hx hb dL_law_821 rfl (lv_at hl 1 rfl) ?_
  refine lv_aload_n hx hb dL_law_822 rfl (lv_at hl 0 rfl) ?_
  refine lv_iload hx hb dL_law_823 (lv_at hl 4 rfl) ?_
  refine lv_iconst (v := 1) hx hb dL_law_825 (by decide) ?_
  refine lv_iadd hx hb dL_law_826 ?_
  refine lv_topi (fun v826 e826 => ?_)
  have i826 : v826.toInt = i.toInt + 1 := zadd e826 rfl (by decide) (by omega) (by omega)
  refine va_sld hx hb hX hbl hbA hS (vp_in_iff.mpr ⟨by omega, by omega⟩) dL_law_827 ?_
  refine lv_topi (fun v827 e827 => ?_)
  refine k_X10_bribes (rest := []) hcf hK3 hV hC hO hP hD hS (fun _ h => h) hl.1 (Nat.le_of_ble_eq_true rfl) (by show k + 0 ≤ 601024; omega) (by show n + 0 ≤ 7293034; omega) dL_law_828 (fun v828 C H locs hv1 hC hP hD hS => ?_)
  refine lv_pop hx hb dL_law_831 rfl ?_
  refine lv_aload_n hx hb dL_law_832 rfl (lv_at hl 2 rfl) ?_
  refine lv_aload_n hx hb dL_law_833 rfl (lv_at hl 0 rfl) ?_
  refine lv_iload hx hb dL_law_834 (lv_at hl 4 rfl) ?_
  refine lv_iconst (v := 1) hx hb dL_law_836 (by decide) ?_
  refine lv_iadd hx hb dL_law_837 ?_
  refine lv_topi (fun v837 e837 => ?_)
  have i837 : v837.toInt = i.toInt + 1 := zadd e837 rfl (by decide) (by omega) (by omega)
  refine va_sld hx hb hX hbl hbA hS (vp_in_iff.mpr ⟨by omega, by omega⟩) dL_law_838 ?_
  refine lv_topi (fun v838 e838 => ?_)
  have hP := zRotP hP
  have hD := zRotD hD
  refine k_X11_bribes (rest := []) hcf hK3 hV hR hO hP hD hS (fun _ h => h) hl.1 (Nat.le_of_ble_eq_true rfl) (by show k + 0 ≤ 601024; omega) (by show n + 0 ≤ 7293034; omega) dL_law_839 (fun v839 Rr H locs hv2 hR hP hD hS => ?_)
  have hP := zRotP' hP
  have hD := zRotD' hD
  have ev0 : v838 = v827 := by rw [e838, e827, e837, e826]
  rw [ev0] at hv2 hR
  have er : v828.toInt = v839.toInt := hv1.trans hv2.symm
  have hO : zOkG (sg.1, sg.2.1, sB_bribes sg.2.2.1 v827, sg.2.2.2.1, sg.2.2.2.2.1, sg.2.2.2.2.2.1, sg.2.2.2.2.2.2) := ⟨hO.1, hO.2⟩
  refine lv_pop hx hb dL_law_842 rfl ?_
  refine lv_goto (tgt := 1797) hx hb dL_law_843 (by decide) ?_
  refine W.widen (k := k + 3) (n := n + 300) (by omega) (by omega) ?_
  exact J _ C Rr fo H locs ls hO hC hR hP hD hS (lv_sub hl [0, 1, 2, 3, 4] rfl)
set_option maxHeartbeats 4000000 in
set_option maxRecDepth 100000 in
theorem law_case_19 {p : Program} {l : Launch} {e : Env} {s : State} {m : MethodId} {below : List Frame} {meth : Method} {c : Code} {b L : Nat} {xs : Nat → Int32} {dC : Nat → ClassId} {dI : Nat → Nat → Nat} {cI cJ cQ : ClassId} {x0 m0 o0 : Nat} (hl0 : l.stackTraces = false) (C0 : lw_At p s m meth c b L xs) (hK3 : va_K (dC, dI) vwCl [(cI, .int), (cJ, .long), (cQ, .object "NinePortraits$Law")] s) (hV : zV (fun q : Nat => s.heap.size ≤ q) s) (hG : zG (fun q : Nat => s.heap.size ≤ q) s) (hCa : zCa s) (hL : L ≤ 3584) {sg : zSy} {C Rr : va_W} {fo : Nat → Int64} {i : Int32} {H : Heap} {locs : List Loc} {ls : Array Slot} {k n : Nat} (hO : zOkG sg) (hC : zCi cI cJ cQ x0 sg C) (hR : zRi cI m0 sg Rr) (hP : va_P (dC, dI) vwCl (C ++ ((o0, .inl (cJ, 1, .inr (.inl fo))) :: Rr)) H) (hD : va_D (fun q : Nat => s.heap.size ≤ q) (C ++ ((o0, .inl (cJ, 1, .inr (.inl fo))) :: Rr))) (hS : va_S (fun q : Nat => s.heap.size ≤ q) s.heap H locs) (hl : lv_has ls 7 [(0, .ref b), (1, .ref x0), (2, .ref m0), (3, .ref o0), (4, .int i)]) (hi0 : 0 ≤ i.toInt) (hiL : i.toInt + 7 ≤ (L : Int)) (hk : k + 3 ≤ 601024) (hn : n + 300 ≤ 7293034) (J : ∀ (sg : zSy) (C Rr : va_W) (fo : Nat → Int64) (H : Heap) (locs : List Loc) (ls : Array Slot), zOkG sg → zCi cI cJ cQ x0 sg C → zRi cI m0 sg Rr → va_P (dC, dI) vwCl (C ++ ((o0, .inl (cJ, 1, .inr (.inl fo))) :: Rr)) H → va_D (fun q : Nat => s.heap.size ≤ q) (C ++ ((o0, .inl (cJ, 1, .inr (.inl fo))) :: Rr)) → va_S (fun q : Nat => s.heap.size ≤ q) s.heap H locs → lv_has ls 7 [(0, .ref b), (1, .ref x0), (2, .ref m0), (3, .ref o0), (4, .int i)] → W p l e room_1 s m #[Value.ref b] below meth c H locs (k + 3) (n + 300) (lw_Z below #[Value.ref b] s) (F0 m 1797 ls [])) : W p l e room_1 s m #[Value.ref b] below meth c H locs k n (lw_Z below #[Value.ref b] s) (F0 m 846 ls []) := by
  obtain ⟨hx, hb, hr, hml, hown, hts0, hX, hbl, hlocks, hgv⟩ := id C0
  have hts : ∀ w ∈ wA, w.before #[Value.ref b] s = true := fun w h => hts0 w (List.mem_filter.mp h).1
  have hown : s.vm.findClass RL = some m.cls := hown
  have hcf : CallFix p m c code 7 s #[Value.ref b] wA RL := ⟨hx, hb, hml, hown, hts⟩
  have hbA : ¬ (fun q : Nat => s.heap.size ≤ q) b := Nat.not_le.mpr hbl
  refine lv_aload_n hx hb dL_law_846 rfl (lv_at hl 1 rfl) ?_
  refine lv_aload_n hx hb dL_law_847 rfl (lv_at hl 0 rfl) ?_
  refine lv_iload hx hb dL_law_848 (lv_at hl 4 rfl) ?_
  refine lv_iconst (v := 1) hx hb dL_law_850 (by decide) ?_
  refine lv_iadd hx hb dL_law_851 ?_
  refine lv_topi (fun v851 e851 => ?_)
  have i851 : v851.toInt = i.toInt + 1 := zadd e851 rfl (by decide) (by omega) (by omega)
  refine va_sld hx hb hX hbl hbA hS (vp_in_iff.mpr ⟨by omega, by omega⟩) dL_law_852 ?_
  refine lv_topi (fun v852 e852 => ?_)
  refine lv_aload_n hx hb dL_law_853 rfl (lv_at hl 0 rfl) ?_
  refine lv_iload hx hb dL_law_854 (lv_at hl 4 rfl) ?_
  refine lv_iconst (v := 2) hx hb dL_law_856 (by decide) ?_
  refine lv_iadd hx hb dL_law_857 ?_
  refine lv_topi (fun v857 e857 => ?_)
  have i857 : v857.toInt = i.toInt + 2 := zadd e857 rfl (by decide) (by omega) (by omega)
  refine va_sld hx hb hX hbl hbA hS (vp_in_iff.mpr ⟨by omega, by omega⟩) dL_law_858 ?_
  refine lv_topi (fun v858 e858 => ?_)
  refine lv_i2l hx hb dL_law_859 rfl ?_
  refine lv_topl (fun v859 e859 => ?_)
  refine lv_bipush (v := 32) hx hb dL_law_860 (by decide) ?_
  refine lv_lshl hx hb dL_law_862 rfl ?_
  refine lv_topl (fun v862 e862 => ?_)
  refine lv_aload_n hx hb dL_law_863 rfl (lv_at hl 0 rfl) ?_
  refine lv_iload hx hb dL_law_864 (lv_at hl 4 rfl) ?_
  refine lv_iconst (v := 3) hx hb dL_law_866 (by decide) ?_
  refine lv_iadd hx hb dL_law_867 ?_
  refine lv_topi (fun v867 e867 => ?_)
  have i867 : v867.toInt = i.toInt + 3 := zadd e867 rfl (by decide) (by omega) (by omega)
  refine va_sld hx hb hX hbl hbA hS (vp_in_iff.mpr ⟨by omega, by omega⟩) dL_law_868 ?_
  refine lv_topi (fun v868 e868 => ?_)
  refine lv_i2l hx hb dL_law_869 rfl ?_
  refine lv_topl (fun v869 e869 => ?_)
  refine lv_ldc2 (v := 4294967295) hx hb hown (hts _ qw1761) dL_law_870 ?_
  refine lv_land hx hb dL_law_873 ?_
  refine lv_topl (fun v873 e873 => ?_)
  refine lv_lor hx hb dL_law_874 ?_
  refine lv_topl (fun v874 e874 => ?_)
  refine k_X10_decades (rest := []) hcf hK3 hV hC hO hP hD hS (fun _ h => h) hl.1 (Nat.le_of_ble_eq_true rfl) (by show k + 0 ≤ 601024; omega) (by show n + 0 ≤ 7293034; omega) dL_law_875 (fun v875 C H locs hv1 hC hP hD hS => ?_)
  refine lv_pop hx hb dL_law_878 rfl ?_
  refine lv_aload_n hx hb dL_law_879 rfl (lv_at hl 2 rfl) ?_
  refine lv_aload_n hx hb dL_law_880 rfl (lv_at hl 0 rfl) ?_
  refine lv_iload hx hb dL_law_881 (lv_at hl 4 rfl) ?_
  refine lv_iconst (v := 1) hx hb dL_law_883 (by decide) ?_
  refine lv_iadd hx hb dL_law_884 ?_
  refine lv_topi (fun v884 e884 => ?_)
  have i884 : v884.toInt = i.toInt + 1 := zadd e884 rfl (by decide) (by omega) (by omega)
  refine va_sld hx hb hX hbl hbA hS (vp_in_iff.mpr ⟨by omega, by omega⟩) dL_law_885 ?_
  refine lv_topi (fun v885 e885 => ?_)
  refine lv_aload_n hx hb dL_law_886 rfl (lv_at hl 0 rfl) ?_
  refine lv_iload hx hb dL_law_887 (lv_at hl 4 rfl) ?_
  refine lv_iconst (v := 2) hx hb dL_law_889 (by decide) ?_
  refine lv_iadd hx hb dL_law_890 ?_
  refine lv_topi (fun v890 e890 => ?_)
  have i890 : v890.toInt = i.toInt + 2 := zadd e890 rfl (by decide) (by omega) (by omega)
  refine va_sld hx hb hX hbl hbA hS (vp_in_iff.mpr ⟨by omega, by omega⟩) dL_law_891 ?_
  refine lv_topi (fun v891 e891 => ?_)
  refine lv_i2l hx hb dL_law_892 rfl ?_
  refine lv_topl (fun v892 e892 => ?_)
  refine lv_bipush (v := 32) hx hb dL_law_893 (by decide) ?_
  refine lv_lshl hx hb dL_law_895 rfl ?_
  refine lv_topl (fun v895 e895 => ?_)
  refine lv_aload_n hx hb dL_law_896 rfl (lv_at hl 0 rfl) ?_
  refine lv_iload hx hb dL_law_897 (lv_at hl 4 rfl) ?_
  refine lv_iconst (v := 3) hx hb dL_law_899 (by decide) ?_
  refine lv_iadd hx hb dL_law_900 ?_
  refine lv_topi (fun v900 e900 => ?_)
  have i900 : v900.toInt = i.toInt + 3 := zadd e900 rfl (by decide) (by omega) (by omega)
  refine va_sld hx hb hX hbl hbA hS (vp_in_iff.mpr ⟨by omega, by omega⟩) dL_law_901 ?_
  refine lv_topi (fun v901 e901 => ?_)
  refine lv_i2l hx hb dL_law_902 rfl ?_
  refine lv_topl (fun v902 e902 => ?_)
  refine lv_ldc2 (v := 4294967295) hx hb hown (hts _ qw1761) dL_law_903 ?_
  refine lv_land hx hb dL_law_906 ?_
  refine lv_topl (fun v906 e906 => ?_)
  refine lv_lor hx hb dL_law_907 ?_
  refine lv_topl (fun v907 e907 => ?_)
  have hP := zRotP hP
  have hD := zRotD hD
  refine k_X11_decades (rest := []) hcf hK3 hV hR hO hP hD hS (fun _ h => h) hl.1 (Nat.le_of_ble_eq_true rfl) (by show k + 0 ≤ 601024; omega) (by show n + 0 ≤ 7293034; omega) dL_law_908 (fun v908 Rr H locs hv2 hR hP hD hS => ?_)
  have hP := zRotP' hP
  have hD := zRotD' hD
  have ev0 : v885 = v852 := by rw [e885, e852, e884, e851]
  rw [ev0] at hv2 hR
  have ev1 : v907 = v874 := by rw [e907, e906, e902, e901, e900, e895, e892, e891, e890, e874, e873, e869, e868, e867, e862, e859, e858, e857]
  rw [ev1] at hv2 hR
  have er : v875.toInt = v908.toInt := congrArg Int32.toInt (hv1.trans hv2.symm)
  have hO : zOkG (sg.1, sg.2.1, sg.2.2.1, sg.2.2.2.1, sg.2.2.2.2.1, sT_dec sg.2.2.2.1.1 sg.2.2.2.1.2.1 sg.2.2.1 sg.2.2.2.1.2.2 (zHo1 sg.2.2.2.2.1) sg.2.2.2.2.2.1 v852 v874, sg.2.2.2.2.2.2) := ⟨ok_dec hO.1, hO.2⟩
  refine lv_pop hx hb dL_law_911 rfl ?_
  refine lv_goto (tgt := 1797) hx hb dL_law_912 (by decide) ?_
  refine W.widen (k := k + 3) (n := n + 300) (by omega) (by omega) ?_
  exact J _ C Rr fo H locs ls hO hC hR hP hD hS (lv_sub hl [0, 1, 2, 3, 4] rfl)
set_option maxHeartbeats 4000000 in
set_option maxRecDepth 100000 in
theorem law_case_20 {p : Program} {l : Launch} {e : Env} {s : State} {m : MethodId} {below : List Frame} {meth : Method} {c : Code} {b L : Nat} {xs : Nat → Int32} {dC : Nat → ClassId} {dI : Nat → Nat → Nat} {cI cJ cQ : ClassId} {x0 m0 o0 : Nat} (hl0 : l.stackTraces = false) (C0 : lw_At p s m meth c b L xs) (hK3 : va_K (dC, dI) vwCl [(cI, .int), (cJ, .long), (cQ, .object "NinePortraits$Law")] s) (hV : zV (fun q : Nat => s.heap.size ≤ q) s) (hG : zG (fun q : Nat => s.heap.size ≤ q) s) (hCa : zCa s) (hL : L ≤ 3584) {sg : zSy} {C Rr : va_W} {fo : Nat → Int64} {i : Int32} {H : Heap} {locs : List Loc} {ls : Array Slot} {k n : Nat} (hO : zOkG sg) (hC : zCi cI cJ cQ x0 sg C) (hR : zRi cI m0 sg Rr) (hP : va_P (dC, dI) vwCl (C ++ ((o0, .inl (cJ, 1, .inr (.inl fo))) :: Rr)) H) (hD : va_D (fun q : Nat => s.heap.size ≤ q) (C ++ ((o0, .inl (cJ, 1, .inr (.inl fo))) :: Rr))) (hS : va_S (fun q : Nat => s.heap.size ≤ q) s.heap H locs) (hl : lv_has ls 7 [(0, .ref b), (1, .ref x0), (2, .ref m0), (3, .ref o0), (4, .int i)]) (hi0 : 0 ≤ i.toInt) (hiL : i.toInt + 7 ≤ (L : Int)) (hk : k + 3 ≤ 601024) (hn : n + 300 ≤ 7293034) (J : ∀ (sg : zSy) (C Rr : va_W) (fo : Nat → Int64) (H : Heap) (locs : List Loc) (ls : Array Slot), zOkG sg → zCi cI cJ cQ x0 sg C → zRi cI m0 sg Rr → va_P (dC, dI) vwCl (C ++ ((o0, .inl (cJ, 1, .inr (.inl fo))) :: Rr)) H → va_D (fun q : Nat => s.heap.size ≤ q) (C ++ ((o0, .inl (cJ, 1, .inr (.inl fo))) :: Rr)) → va_S (fun q : Nat => s.heap.size ≤ q) s.heap H locs → lv_has ls 7 [(0, .ref b), (1, .ref x0), (2, .ref m0), (3, .ref o0), (4, .int i)] → W p l e room_1 s m #[Value.ref b] below meth c H locs (k + 3) (n + 300) (lw_Z below #[Value.ref b] s) (F0 m 1797 ls [])) : W p l e room_1 s m #[Value.ref b] below meth c H locs k n (lw_Z below #[Value.ref b] s) (F0 m 915 ls []) := by
  obtain ⟨hx, hb, hr, hml, hown, hts0, hX, hbl, hlocks, hgv⟩ := id C0
  have hts : ∀ w ∈ wA, w.before #[Value.ref b] s = true := fun w h => hts0 w (List.mem_filter.mp h).1
  have hown : s.vm.findClass RL = some m.cls := hown
  have hcf : CallFix p m c code 7 s #[Value.ref b] wA RL := ⟨hx, hb, hml, hown, hts⟩
  have hbA : ¬ (fun q : Nat => s.heap.size ≤ q) b := Nat.not_le.mpr hbl
  refine lv_aload_n hx hb dL_law_915 rfl (lv_at hl 1 rfl) ?_
  refine lv_aload_n hx hb dL_law_916 rfl (lv_at hl 0 rfl) ?_
  refine lv_iload hx hb dL_law_917 (lv_at hl 4 rfl) ?_
  refine lv_iconst (v := 1) hx hb dL_law_919 (by decide) ?_
  refine lv_iadd hx hb dL_law_920 ?_
  refine lv_topi (fun v920 e920 => ?_)
  have i920 : v920.toInt = i.toInt + 1 := zadd e920 rfl (by decide) (by omega) (by omega)
  refine va_sld hx hb hX hbl hbA hS (vp_in_iff.mpr ⟨by omega, by omega⟩) dL_law_921 ?_
  refine lv_topi (fun v921 e921 => ?_)
  refine k_X10_status (rest := []) hcf hK3 hV hC hO hP hD hS (fun _ h => h) hl.1 (Nat.le_of_ble_eq_true rfl) (by show k + 0 ≤ 601024; omega) (by show n + 0 ≤ 7293034; omega) dL_law_922 (fun v922 C H locs hv1 hC hP hD hS => ?_)
  refine lv_pop hx hb dL_law_925 rfl ?_
  refine lv_aload_n hx hb dL_law_926 rfl (lv_at hl 2 rfl) ?_
  refine lv_aload_n hx hb dL_law_927 rfl (lv_at hl 0 rfl) ?_
  refine lv_iload hx hb dL_law_928 (lv_at hl 4 rfl) ?_
  refine lv_iconst (v := 1) hx hb dL_law_930 (by decide) ?_
  refine lv_iadd hx hb dL_law_931 ?_
  refine lv_topi (fun v931 e931 => ?_)
  have i931 : v931.toInt = i.toInt + 1 := zadd e931 rfl (by decide) (by omega) (by omega)
  refine va_sld hx hb hX hbl hbA hS (vp_in_iff.mpr ⟨by omega, by omega⟩) dL_law_932 ?_
  refine lv_topi (fun v932 e932 => ?_)
  have hP := zRotP hP
  have hD := zRotD hD
  refine k_X11_status (rest := []) hcf hK3 hV hR hO hP hD hS (fun _ h => h) hl.1 (Nat.le_of_ble_eq_true rfl) (by show k + 0 ≤ 601024; omega) (by show n + 0 ≤ 7293034; omega) dL_law_933 (fun v933 Rr H locs hv2 hR hP hD hS => ?_)
  have hP := zRotP' hP
  have hD := zRotD' hD
  have ev0 : v932 = v921 := by rw [e932, e921, e931, e920]
  rw [ev0] at hv2
  have er : v922.toInt = v933.toInt := congrArg Int32.toInt (hv1.trans hv2.symm)
  refine lv_pop hx hb dL_law_936 rfl ?_
  refine lv_goto (tgt := 1797) hx hb dL_law_937 (by decide) ?_
  refine W.widen (k := k + 3) (n := n + 300) (by omega) (by omega) ?_
  exact J _ C Rr fo H locs ls hO hC hR hP hD hS (lv_sub hl [0, 1, 2, 3, 4] rfl)
set_option maxHeartbeats 4000000 in
set_option maxRecDepth 100000 in
theorem law_case_21 {p : Program} {l : Launch} {e : Env} {s : State} {m : MethodId} {below : List Frame} {meth : Method} {c : Code} {b L : Nat} {xs : Nat → Int32} {dC : Nat → ClassId} {dI : Nat → Nat → Nat} {cI cJ cQ : ClassId} {x0 m0 o0 : Nat} (hl0 : l.stackTraces = false) (C0 : lw_At p s m meth c b L xs) (hK3 : va_K (dC, dI) vwCl [(cI, .int), (cJ, .long), (cQ, .object "NinePortraits$Law")] s) (hV : zV (fun q : Nat => s.heap.size ≤ q) s) (hG : zG (fun q : Nat => s.heap.size ≤ q) s) (hCa : zCa s) (hL : L ≤ 3584) {sg : zSy} {C Rr : va_W} {fo : Nat → Int64} {i : Int32} {H : Heap} {locs : List Loc} {ls : Array Slot} {k n : Nat} (hO : zOkG sg) (hC : zCi cI cJ cQ x0 sg C) (hR : zRi cI m0 sg Rr) (hP : va_P (dC, dI) vwCl (C ++ ((o0, .inl (cJ, 1, .inr (.inl fo))) :: Rr)) H) (hD : va_D (fun q : Nat => s.heap.size ≤ q) (C ++ ((o0, .inl (cJ, 1, .inr (.inl fo))) :: Rr))) (hS : va_S (fun q : Nat => s.heap.size ≤ q) s.heap H locs) (hl : lv_has ls 7 [(0, .ref b), (1, .ref x0), (2, .ref m0), (3, .ref o0), (4, .int i)]) (hi0 : 0 ≤ i.toInt) (hiL : i.toInt + 7 ≤ (L : Int)) (hk : k + 3 ≤ 601024) (hn : n + 300 ≤ 7293034) (J : ∀ (sg : zSy) (C Rr : va_W) (fo : Nat → Int64) (H : Heap) (locs : List Loc) (ls : Array Slot), zOkG sg → zCi cI cJ cQ x0 sg C → zRi cI m0 sg Rr → va_P (dC, dI) vwCl (C ++ ((o0, .inl (cJ, 1, .inr (.inl fo))) :: Rr)) H → va_D (fun q : Nat => s.heap.size ≤ q) (C ++ ((o0, .inl (cJ, 1, .inr (.inl fo))) :: Rr)) → va_S (fun q : Nat => s.heap.size ≤ q) s.heap H locs → lv_has ls 7 [(0, .ref b), (1, .ref x0), (2, .ref m0), (3, .ref o0), (4, .int i)] → W p l e room_1 s m #[Value.ref b] below meth c H locs (k + 3) (n + 300) (lw_Z below #[Value.ref b] s) (F0 m 1797 ls [])) : W p l e room_1 s m #[Value.ref b] below meth c H locs k n (lw_Z below #[Value.ref b] s) (F0 m 940 ls []) := by
  obtain ⟨hx, hb, hr, hml, hown, hts0, hX, hbl, hlocks, hgv⟩ := id C0
  have hts : ∀ w ∈ wA, w.before #[Value.ref b] s = true := fun w h => hts0 w (List.mem_filter.mp h).1
  have hown : s.vm.findClass RL = some m.cls := hown
  have hcf : CallFix p m c code 7 s #[Value.ref b] wA RL := ⟨hx, hb, hml, hown, hts⟩
  have hbA : ¬ (fun q : Nat => s.heap.size ≤ q) b := Nat.not_le.mpr hbl
  refine lv_aload_n hx hb dL_law_940 rfl (lv_at hl 1 rfl) ?_
  refine k_X10_undo (rest := []) hcf hK3 hV hC hO hP hD hS (fun _ h => h) hl.1 (Nat.le_of_ble_eq_true rfl) (by show k + 0 ≤ 601024; omega) (by show n + 0 ≤ 7293034; omega) dL_law_941 (fun v941 C H locs hv1 hC hP hD hS => ?_)
  refine lv_pop hx hb dL_law_944 rfl ?_
  refine lv_aload_n hx hb dL_law_945 rfl (lv_at hl 2 rfl) ?_
  have hP := zRotP hP
  have hD := zRotD hD
  refine k_X11_undo (rest := []) hcf hK3 hV hR hO hP hD hS (fun _ h => h) hl.1 (Nat.le_of_ble_eq_true rfl) (by show k + 0 ≤ 601024; omega) (by show n + 0 ≤ 7293034; omega) dL_law_946 (fun v946 Rr H locs hv2 hR hP hD hS => ?_)
  have hP := zRotP' hP
  have hD := zRotD' hD
  have er : v941.toInt = v946.toInt := hv1.trans hv2.symm
  have hO : zOkG (sg.1, sg.2.1, sg.2.2.1, sg.2.2.2.1, sg.2.2.2.2.1, sT_und sg.2.2.2.2.2.1, sg.2.2.2.2.2.2) := ⟨ok_und hO.1, hO.2⟩
  refine lv_pop hx hb dL_law_949 rfl ?_
  refine lv_goto (tgt := 1797) hx hb dL_law_950 (by decide) ?_
  refine W.widen (k := k + 3) (n := n + 300) (by omega) (by omega) ?_
  exact J _ C Rr fo H locs ls hO hC hR hP hD hS (lv_sub hl [0, 1, 2, 3, 4] rfl)
set_option maxHeartbeats 4000000 in
set_option maxRecDepth 100000 in
theorem law_case_22 {p : Program} {l : Launch} {e : Env} {s : State} {m : MethodId} {below : List Frame} {meth : Method} {c : Code} {b L : Nat} {xs : Nat → Int32} {dC : Nat → ClassId} {dI : Nat → Nat → Nat} {cI cJ cQ : ClassId} {x0 m0 o0 : Nat} (hl0 : l.stackTraces = false) (C0 : lw_At p s m meth c b L xs) (hK3 : va_K (dC, dI) vwCl [(cI, .int), (cJ, .long), (cQ, .object "NinePortraits$Law")] s) (hV : zV (fun q : Nat => s.heap.size ≤ q) s) (hG : zG (fun q : Nat => s.heap.size ≤ q) s) (hCa : zCa s) (hL : L ≤ 3584) {sg : zSy} {C Rr : va_W} {fo : Nat → Int64} {i : Int32} {H : Heap} {locs : List Loc} {ls : Array Slot} {k n : Nat} (hO : zOkG sg) (hC : zCi cI cJ cQ x0 sg C) (hR : zRi cI m0 sg Rr) (hP : va_P (dC, dI) vwCl (C ++ ((o0, .inl (cJ, 1, .inr (.inl fo))) :: Rr)) H) (hD : va_D (fun q : Nat => s.heap.size ≤ q) (C ++ ((o0, .inl (cJ, 1, .inr (.inl fo))) :: Rr))) (hS : va_S (fun q : Nat => s.heap.size ≤ q) s.heap H locs) (hl : lv_has ls 7 [(0, .ref b), (1, .ref x0), (2, .ref m0), (3, .ref o0), (4, .int i)]) (hi0 : 0 ≤ i.toInt) (hiL : i.toInt + 7 ≤ (L : Int)) (hk : k + 3 ≤ 601024) (hn : n + 300 ≤ 7293034) (J : ∀ (sg : zSy) (C Rr : va_W) (fo : Nat → Int64) (H : Heap) (locs : List Loc) (ls : Array Slot), zOkG sg → zCi cI cJ cQ x0 sg C → zRi cI m0 sg Rr → va_P (dC, dI) vwCl (C ++ ((o0, .inl (cJ, 1, .inr (.inl fo))) :: Rr)) H → va_D (fun q : Nat => s.heap.size ≤ q) (C ++ ((o0, .inl (cJ, 1, .inr (.inl fo))) :: Rr)) → va_S (fun q : Nat => s.heap.size ≤ q) s.heap H locs → lv_has ls 7 [(0, .ref b), (1, .ref x0), (2, .ref m0), (3, .ref o0), (4, .int i)] → W p l e room_1 s m #[Value.ref b] below meth c H locs (k + 3) (n + 300) (lw_Z below #[Value.ref b] s) (F0 m 1797 ls [])) : W p l e room_1 s m #[Value.ref b] below meth c H locs k n (lw_Z below #[Value.ref b] s) (F0 m 953 ls []) := by
  obtain ⟨hx, hb, hr, hml, hown, hts0, hX, hbl, hlocks, hgv⟩ := id C0
  have hts : ∀ w ∈ wA, w.before #[Value.ref b] s = true := fun w h => hts0 w (List.mem_filter.mp h).1
  have hown : s.vm.findClass RL = some m.cls := hown
  have hcf : CallFix p m c code 7 s #[Value.ref b] wA RL := ⟨hx, hb, hml, hown, hts⟩
  have hbA : ¬ (fun q : Nat => s.heap.size ≤ q) b := Nat.not_le.mpr hbl
  refine lv_aload_n hx hb dL_law_953 rfl (lv_at hl 1 rfl) ?_
  refine lv_aload_n hx hb dL_law_954 rfl (lv_at hl 0 rfl) ?_
  refine lv_iload hx hb dL_law_955 (lv_at hl 4 rfl) ?_
  refine lv_iconst (v := 1) hx hb dL_law_957 (by decide) ?_
  refine lv_iadd hx hb dL_law_958 ?_
  refine lv_topi (fun v958 e958 => ?_)
  have i958 : v958.toInt = i.toInt + 1 := zadd e958 rfl (by decide) (by omega) (by omega)
  refine va_sld hx hb hX hbl hbA hS (vp_in_iff.mpr ⟨by omega, by omega⟩) dL_law_959 ?_
  refine lv_topi (fun v959 e959 => ?_)
  refine lv_aload_n hx hb dL_law_960 rfl (lv_at hl 0 rfl) ?_
  refine lv_iload hx hb dL_law_961 (lv_at hl 4 rfl) ?_
  refine lv_iconst (v := 2) hx hb dL_law_963 (by decide) ?_
  refine lv_iadd hx hb dL_law_964 ?_
  refine lv_topi (fun v964 e964 => ?_)
  have i964 : v964.toInt = i.toInt + 2 := zadd e964 rfl (by decide) (by omega) (by omega)
  refine va_sld hx hb hX hbl hbA hS (vp_in_iff.mpr ⟨by omega, by omega⟩) dL_law_965 ?_
  refine lv_topi (fun v965 e965 => ?_)
  refine k_X10_portrait (rest := []) hcf hK3 hV hC hO hP hD hS (fun _ h => h) hl.1 (Nat.le_of_ble_eq_true rfl) (by show k + 0 ≤ 601024; omega) (by show n + 0 ≤ 7293034; omega) dL_law_966 (fun v966 C H locs hv1 hC hP hD hS => ?_)
  refine lv_pop hx hb dL_law_969 rfl ?_
  refine lv_aload_n hx hb dL_law_970 rfl (lv_at hl 2 rfl) ?_
  refine lv_aload_n hx hb dL_law_971 rfl (lv_at hl 0 rfl) ?_
  refine lv_iload hx hb dL_law_972 (lv_at hl 4 rfl) ?_
  refine lv_iconst (v := 1) hx hb dL_law_974 (by decide) ?_
  refine lv_iadd hx hb dL_law_975 ?_
  refine lv_topi (fun v975 e975 => ?_)
  have i975 : v975.toInt = i.toInt + 1 := zadd e975 rfl (by decide) (by omega) (by omega)
  refine va_sld hx hb hX hbl hbA hS (vp_in_iff.mpr ⟨by omega, by omega⟩) dL_law_976 ?_
  refine lv_topi (fun v976 e976 => ?_)
  refine lv_aload_n hx hb dL_law_977 rfl (lv_at hl 0 rfl) ?_
  refine lv_iload hx hb dL_law_978 (lv_at hl 4 rfl) ?_
  refine lv_iconst (v := 2) hx hb dL_law_980 (by decide) ?_
  refine lv_iadd hx hb dL_law_981 ?_
  refine lv_topi (fun v981 e981 => ?_)
  have i981 : v981.toInt = i.toInt + 2 := zadd e981 rfl (by decide) (by omega) (by omega)
  refine va_sld hx hb hX hbl hbA hS (vp_in_iff.mpr ⟨by omega, by omega⟩) dL_law_982 ?_
  refine lv_topi (fun v982 e982 => ?_)
  have hP := zRotP hP
  have hD := zRotD hD
  refine k_X11_portrait (rest := []) hcf hK3 hV hR hO hP hD hS (fun _ h => h) hl.1 (Nat.le_of_ble_eq_true rfl) (by show k + 0 ≤ 601024; omega) (by show n + 0 ≤ 7293034; omega) dL_law_983 (fun v983 Rr H locs hv2 hR hP hD hS => ?_)
  have hP := zRotP' hP
  have hD := zRotD' hD
  have ev0 : v976 = v959 := by rw [e976, e959, e975, e958]
  rw [ev0] at hv2
  have ev1 : v982 = v965 := by rw [e982, e965, e981, e964]
  rw [ev1] at hv2
  have er : v966.toInt = v983.toInt := congrArg Int32.toInt (hv1.trans hv2.symm)
  refine lv_pop hx hb dL_law_986 rfl ?_
  refine lv_goto (tgt := 1797) hx hb dL_law_987 (by decide) ?_
  refine W.widen (k := k + 3) (n := n + 300) (by omega) (by omega) ?_
  exact J _ C Rr fo H locs ls hO hC hR hP hD hS (lv_sub hl [0, 1, 2, 3, 4] rfl)
set_option maxHeartbeats 4000000 in
set_option maxRecDepth 100000 in
theorem law_case_23 {p : Program} {l : Launch} {e : Env} {s : State} {m : MethodId} {below : List Frame} {meth : Method} {c : Code} {b L : Nat} {xs : Nat → Int32} {dC : Nat → ClassId} {dI : Nat → Nat → Nat} {cI cJ cQ : ClassId} {x0 m0 o0 : Nat} (hl0 : l.stackTraces = false) (C0 : lw_At p s m meth c b L xs) (hK3 : va_K (dC, dI) vwCl [(cI, .int), (cJ, .long), (cQ, .object "NinePortraits$Law")] s) (hV : zV (fun q : Nat => s.heap.size ≤ q) s) (hG : zG (fun q : Nat => s.heap.size ≤ q) s) (hCa : zCa s) (hL : L ≤ 3584) {sg : zSy} {C Rr : va_W} {fo : Nat → Int64} {i : Int32} {H : Heap} {locs : List Loc} {ls : Array Slot} {k n : Nat} (hO : zOkG sg) (hC : zCi cI cJ cQ x0 sg C) (hR : zRi cI m0 sg Rr) (hP : va_P (dC, dI) vwCl (C ++ ((o0, .inl (cJ, 1, .inr (.inl fo))) :: Rr)) H) (hD : va_D (fun q : Nat => s.heap.size ≤ q) (C ++ ((o0, .inl (cJ, 1, .inr (.inl fo))) :: Rr))) (hS : va_S (fun q : Nat => s.heap.size ≤ q) s.heap H locs) (hl : lv_has ls 7 [(0, .ref b), (1, .ref x0), (2, .ref m0), (3, .ref o0), (4, .int i)]) (hi0 : 0 ≤ i.toInt) (hiL : i.toInt + 7 ≤ (L : Int)) (hk : k + 3 ≤ 601024) (hn : n + 300 ≤ 7293034) (J : ∀ (sg : zSy) (C Rr : va_W) (fo : Nat → Int64) (H : Heap) (locs : List Loc) (ls : Array Slot), zOkG sg → zCi cI cJ cQ x0 sg C → zRi cI m0 sg Rr → va_P (dC, dI) vwCl (C ++ ((o0, .inl (cJ, 1, .inr (.inl fo))) :: Rr)) H → va_D (fun q : Nat => s.heap.size ≤ q) (C ++ ((o0, .inl (cJ, 1, .inr (.inl fo))) :: Rr)) → va_S (fun q : Nat => s.heap.size ≤ q) s.heap H locs → lv_has ls 7 [(0, .ref b), (1, .ref x0), (2, .ref m0), (3, .ref o0), (4, .int i)] → W p l e room_1 s m #[Value.ref b] below meth c H locs (k + 3) (n + 300) (lw_Z below #[Value.ref b] s) (F0 m 1797 ls [])) : W p l e room_1 s m #[Value.ref b] below meth c H locs k n (lw_Z below #[Value.ref b] s) (F0 m 990 ls []) := by
  obtain ⟨hx, hb, hr, hml, hown, hts0, hX, hbl, hlocks, hgv⟩ := id C0
  have hts : ∀ w ∈ wA, w.before #[Value.ref b] s = true := fun w h => hts0 w (List.mem_filter.mp h).1
  have hown : s.vm.findClass RL = some m.cls := hown
  have hcf : CallFix p m c code 7 s #[Value.ref b] wA RL := ⟨hx, hb, hml, hown, hts⟩
  have hbA : ¬ (fun q : Nat => s.heap.size ≤ q) b := Nat.not_le.mpr hbl
  refine lv_aload_n hx hb dL_law_990 rfl (lv_at hl 1 rfl) ?_
  refine lv_aload_n hx hb dL_law_991 rfl (lv_at hl 0 rfl) ?_
  refine lv_iload hx hb dL_law_992 (lv_at hl 4 rfl) ?_
  refine lv_iconst (v := 1) hx hb dL_law_994 (by decide) ?_
  refine lv_iadd hx hb dL_law_995 ?_
  refine lv_topi (fun v995 e995 => ?_)
  have i995 : v995.toInt = i.toInt + 1 := zadd e995 rfl (by decide) (by omega) (by omega)
  refine va_sld hx hb hX hbl hbA hS (vp_in_iff.mpr ⟨by omega, by omega⟩) dL_law_996 ?_
  refine lv_topi (fun v996 e996 => ?_)
  refine k_X10_fits (rest := []) hcf hK3 hV hC hO hP hD hS (fun _ h => h) hl.1 (Nat.le_of_ble_eq_true rfl) (by show k + 0 ≤ 601024; omega) (by show n + 0 ≤ 7293034; omega) dL_law_997 (fun v997 C H locs hv1 hC hP hD hS => ?_)
  refine lv_pop hx hb dL_law_1000 rfl ?_
  refine lv_aload_n hx hb dL_law_1001 rfl (lv_at hl 2 rfl) ?_
  refine lv_aload_n hx hb dL_law_1002 rfl (lv_at hl 0 rfl) ?_
  refine lv_iload hx hb dL_law_1003 (lv_at hl 4 rfl) ?_
  refine lv_iconst (v := 1) hx hb dL_law_1005 (by decide) ?_
  refine lv_iadd hx hb dL_law_1006 ?_
  refine lv_topi (fun v1006 e1006 => ?_)
  have i1006 : v1006.toInt = i.toInt + 1 := zadd e1006 rfl (by decide) (by omega) (by omega)
  refine va_sld hx hb hX hbl hbA hS (vp_in_iff.mpr ⟨by omega, by omega⟩) dL_law_1007 ?_
  refine lv_topi (fun v1007 e1007 => ?_)
  have hP := zRotP hP
  have hD := zRotD hD
  refine k_X11_fits (rest := []) hcf hK3 hV hR hO hP hD hS (fun _ h => h) hl.1 (Nat.le_of_ble_eq_true rfl) (by show k + 0 ≤ 601024; omega) (by show n + 0 ≤ 7293034; omega) dL_law_1008 (fun v1008 Rr H locs hv2 hR hP hD hS => ?_)
  have hP := zRotP' hP
  have hD := zRotD' hD
  have ev0 : v1007 = v996 := by rw [e1007, e996, e1006, e995]
  rw [ev0] at hv2
  have er : v997.toInt = v1008.toInt := congrArg Int32.toInt (hv1.trans hv2.symm)
  refine lv_pop hx hb dL_law_1011 rfl ?_
  refine lv_goto (tgt := 1797) hx hb dL_law_1012 (by decide) ?_
  refine W.widen (k := k + 3) (n := n + 300) (by omega) (by omega) ?_
  exact J _ C Rr fo H locs ls hO hC hR hP hD hS (lv_sub hl [0, 1, 2, 3, 4] rfl)
set_option maxHeartbeats 4000000 in
set_option maxRecDepth 100000 in
theorem law_case_24 {p : Program} {l : Launch} {e : Env} {s : State} {m : MethodId} {below : List Frame} {meth : Method} {c : Code} {b L : Nat} {xs : Nat → Int32} {dC : Nat → ClassId} {dI : Nat → Nat → Nat} {cI cJ cQ : ClassId} {x0 m0 o0 : Nat} (hl0 : l.stackTraces = false) (C0 : lw_At p s m meth c b L xs) (hK3 : va_K (dC, dI) vwCl [(cI, .int), (cJ, .long), (cQ, .object "NinePortraits$Law")] s) (hV : zV (fun q : Nat => s.heap.size ≤ q) s) (hG : zG (fun q : Nat => s.heap.size ≤ q) s) (hCa : zCa s) (hL : L ≤ 3584) {sg : zSy} {C Rr : va_W} {fo : Nat → Int64} {i : Int32} {H : Heap} {locs : List Loc} {ls : Array Slot} {k n : Nat} (hO : zOkG sg) (hC : zCi cI cJ cQ x0 sg C) (hR : zRi cI m0 sg Rr) (hP : va_P (dC, dI) vwCl (C ++ ((o0, .inl (cJ, 1, .inr (.inl fo))) :: Rr)) H) (hD : va_D (fun q : Nat => s.heap.size ≤ q) (C ++ ((o0, .inl (cJ, 1, .inr (.inl fo))) :: Rr))) (hS : va_S (fun q : Nat => s.heap.size ≤ q) s.heap H locs) (hl : lv_has ls 7 [(0, .ref b), (1, .ref x0), (2, .ref m0), (3, .ref o0), (4, .int i)]) (hi0 : 0 ≤ i.toInt) (hiL : i.toInt + 7 ≤ (L : Int)) (hk : k + 3 ≤ 601024) (hn : n + 300 ≤ 7293034) (J : ∀ (sg : zSy) (C Rr : va_W) (fo : Nat → Int64) (H : Heap) (locs : List Loc) (ls : Array Slot), zOkG sg → zCi cI cJ cQ x0 sg C → zRi cI m0 sg Rr → va_P (dC, dI) vwCl (C ++ ((o0, .inl (cJ, 1, .inr (.inl fo))) :: Rr)) H → va_D (fun q : Nat => s.heap.size ≤ q) (C ++ ((o0, .inl (cJ, 1, .inr (.inl fo))) :: Rr)) → va_S (fun q : Nat => s.heap.size ≤ q) s.heap H locs → lv_has ls 7 [(0, .ref b), (1, .ref x0), (2, .ref m0), (3, .ref o0), (4, .int i)] → W p l e room_1 s m #[Value.ref b] below meth c H locs (k + 3) (n + 300) (lw_Z below #[Value.ref b] s) (F0 m 1797 ls [])) : W p l e room_1 s m #[Value.ref b] below meth c H locs k n (lw_Z below #[Value.ref b] s) (F0 m 1015 ls []) := by
  obtain ⟨hx, hb, hr, hml, hown, hts0, hX, hbl, hlocks, hgv⟩ := id C0
  have hts : ∀ w ∈ wA, w.before #[Value.ref b] s = true := fun w h => hts0 w (List.mem_filter.mp h).1
  have hown : s.vm.findClass RL = some m.cls := hown
  have hcf : CallFix p m c code 7 s #[Value.ref b] wA RL := ⟨hx, hb, hml, hown, hts⟩
  have hbA : ¬ (fun q : Nat => s.heap.size ≤ q) b := Nat.not_le.mpr hbl
  refine lv_aload_n hx hb dL_law_1015 rfl (lv_at hl 1 rfl) ?_
  refine lv_aload_n hx hb dL_law_1016 rfl (lv_at hl 0 rfl) ?_
  refine lv_iload hx hb dL_law_1017 (lv_at hl 4 rfl) ?_
  refine lv_iconst (v := 1) hx hb dL_law_1019 (by decide) ?_
  refine lv_iadd hx hb dL_law_1020 ?_
  refine lv_topi (fun v1020 e1020 => ?_)
  have i1020 : v1020.toInt = i.toInt + 1 := zadd e1020 rfl (by decide) (by omega) (by omega)
  refine va_sld hx hb hX hbl hbA hS (vp_in_iff.mpr ⟨by omega, by omega⟩) dL_law_1021 ?_
  refine lv_topi (fun v1021 e1021 => ?_)
  refine lv_aload_n hx hb dL_law_1022 rfl (lv_at hl 0 rfl) ?_
  refine lv_iload hx hb dL_law_1023 (lv_at hl 4 rfl) ?_
  refine lv_iconst (v := 2) hx hb dL_law_1025 (by decide) ?_
  refine lv_iadd hx hb dL_law_1026 ?_
  refine lv_topi (fun v1026 e1026 => ?_)
  have i1026 : v1026.toInt = i.toInt + 2 := zadd e1026 rfl (by decide) (by omega) (by omega)
  refine va_sld hx hb hX hbl hbA hS (vp_in_iff.mpr ⟨by omega, by omega⟩) dL_law_1027 ?_
  refine lv_topi (fun v1027 e1027 => ?_)
  refine k_X10_belief (rest := []) hcf hK3 hV hC hO hP hD hS (fun _ h => h) hl.1 (Nat.le_of_ble_eq_true rfl) (by show k + 0 ≤ 601024; omega) (by show n + 0 ≤ 7293034; omega) dL_law_1028 (fun v1028 C H locs hv1 hC hP hD hS => ?_)
  refine lv_pop hx hb dL_law_1031 rfl ?_
  refine lv_aload_n hx hb dL_law_1032 rfl (lv_at hl 2 rfl) ?_
  refine lv_aload_n hx hb dL_law_1033 rfl (lv_at hl 0 rfl) ?_
  refine lv_iload hx hb dL_law_1034 (lv_at hl 4 rfl) ?_
  refine lv_iconst (v := 1) hx hb dL_law_1036 (by decide) ?_
  refine lv_iadd hx hb dL_law_1037 ?_
  refine lv_topi (fun v1037 e1037 => ?_)
  have i1037 : v1037.toInt = i.toInt + 1 := zadd e1037 rfl (by decide) (by omega) (by omega)
  refine va_sld hx hb hX hbl hbA hS (vp_in_iff.mpr ⟨by omega, by omega⟩) dL_law_1038 ?_
  refine lv_topi (fun v1038 e1038 => ?_)
  refine lv_aload_n hx hb dL_law_1039 rfl (lv_at hl 0 rfl) ?_
  refine lv_iload hx hb dL_law_1040 (lv_at hl 4 rfl) ?_
  refine lv_iconst (v := 2) hx hb dL_law_1042 (by decide) ?_
  refine lv_iadd hx hb dL_law_1043 ?_
  refine lv_topi (fun v1043 e1043 => ?_)
  have i1043 : v1043.toInt = i.toInt + 2 := zadd e1043 rfl (by decide) (by omega) (by omega)
  refine va_sld hx hb hX hbl hbA hS (vp_in_iff.mpr ⟨by omega, by omega⟩) dL_law_1044 ?_
  refine lv_topi (fun v1044 e1044 => ?_)
  have hP := zRotP hP
  have hD := zRotD hD
  refine k_X11_belief (rest := []) hcf hK3 hV hR hO hP hD hS (fun _ h => h) hl.1 (Nat.le_of_ble_eq_true rfl) (by show k + 0 ≤ 601024; omega) (by show n + 0 ≤ 7293034; omega) dL_law_1045 (fun v1045 Rr H locs hv2 hR hP hD hS => ?_)
  have hP := zRotP' hP
  have hD := zRotD' hD
  have ev0 : v1038 = v1021 := by rw [e1038, e1021, e1037, e1020]
  rw [ev0] at hv2
  have ev1 : v1044 = v1027 := by rw [e1044, e1027, e1043, e1026]
  rw [ev1] at hv2
  have er : v1028.toInt = v1045.toInt := congrArg Int32.toInt (hv1.trans hv2.symm)
  refine lv_pop hx hb dL_law_1048 rfl ?_
  refine lv_goto (tgt := 1797) hx hb dL_law_1049 (by decide) ?_
  refine W.widen (k := k + 3) (n := n + 300) (by omega) (by omega) ?_
  exact J _ C Rr fo H locs ls hO hC hR hP hD hS (lv_sub hl [0, 1, 2, 3, 4] rfl)
set_option maxHeartbeats 4000000 in
set_option maxRecDepth 100000 in
theorem law_case_25 {p : Program} {l : Launch} {e : Env} {s : State} {m : MethodId} {below : List Frame} {meth : Method} {c : Code} {b L : Nat} {xs : Nat → Int32} {dC : Nat → ClassId} {dI : Nat → Nat → Nat} {cI cJ cQ : ClassId} {x0 m0 o0 : Nat} (hl0 : l.stackTraces = false) (C0 : lw_At p s m meth c b L xs) (hK3 : va_K (dC, dI) vwCl [(cI, .int), (cJ, .long), (cQ, .object "NinePortraits$Law")] s) (hV : zV (fun q : Nat => s.heap.size ≤ q) s) (hG : zG (fun q : Nat => s.heap.size ≤ q) s) (hCa : zCa s) (hL : L ≤ 3584) {sg : zSy} {C Rr : va_W} {fo : Nat → Int64} {i : Int32} {H : Heap} {locs : List Loc} {ls : Array Slot} {k n : Nat} (hO : zOkG sg) (hC : zCi cI cJ cQ x0 sg C) (hR : zRi cI m0 sg Rr) (hP : va_P (dC, dI) vwCl (C ++ ((o0, .inl (cJ, 1, .inr (.inl fo))) :: Rr)) H) (hD : va_D (fun q : Nat => s.heap.size ≤ q) (C ++ ((o0, .inl (cJ, 1, .inr (.inl fo))) :: Rr))) (hS : va_S (fun q : Nat => s.heap.size ≤ q) s.heap H locs) (hl : lv_has ls 7 [(0, .ref b), (1, .ref x0), (2, .ref m0), (3, .ref o0), (4, .int i)]) (hi0 : 0 ≤ i.toInt) (hiL : i.toInt + 7 ≤ (L : Int)) (hk : k + 3 ≤ 601024) (hn : n + 300 ≤ 7293034) (J : ∀ (sg : zSy) (C Rr : va_W) (fo : Nat → Int64) (H : Heap) (locs : List Loc) (ls : Array Slot), zOkG sg → zCi cI cJ cQ x0 sg C → zRi cI m0 sg Rr → va_P (dC, dI) vwCl (C ++ ((o0, .inl (cJ, 1, .inr (.inl fo))) :: Rr)) H → va_D (fun q : Nat => s.heap.size ≤ q) (C ++ ((o0, .inl (cJ, 1, .inr (.inl fo))) :: Rr)) → va_S (fun q : Nat => s.heap.size ≤ q) s.heap H locs → lv_has ls 7 [(0, .ref b), (1, .ref x0), (2, .ref m0), (3, .ref o0), (4, .int i)] → W p l e room_1 s m #[Value.ref b] below meth c H locs (k + 3) (n + 300) (lw_Z below #[Value.ref b] s) (F0 m 1797 ls [])) : W p l e room_1 s m #[Value.ref b] below meth c H locs k n (lw_Z below #[Value.ref b] s) (F0 m 1052 ls []) := by
  obtain ⟨hx, hb, hr, hml, hown, hts0, hX, hbl, hlocks, hgv⟩ := id C0
  have hts : ∀ w ∈ wA, w.before #[Value.ref b] s = true := fun w h => hts0 w (List.mem_filter.mp h).1
  have hown : s.vm.findClass RL = some m.cls := hown
  have hcf : CallFix p m c code 7 s #[Value.ref b] wA RL := ⟨hx, hb, hml, hown, hts⟩
  have hbA : ¬ (fun q : Nat => s.heap.size ≤ q) b := Nat.not_le.mpr hbl
  refine lv_aload_n hx hb dL_law_1052 rfl (lv_at hl 1 rfl) ?_
  refine lv_aload_n hx hb dL_law_1053 rfl (lv_at hl 0 rfl) ?_
  refine lv_iload hx hb dL_law_1054 (lv_at hl 4 rfl) ?_
  refine lv_iconst (v := 1) hx hb dL_law_1056 (by decide) ?_
  refine lv_iadd hx hb dL_law_1057 ?_
  refine lv_topi (fun v1057 e1057 => ?_)
  have i1057 : v1057.toInt = i.toInt + 1 := zadd e1057 rfl (by decide) (by omega) (by omega)
  refine va_sld hx hb hX hbl hbA hS (vp_in_iff.mpr ⟨by omega, by omega⟩) dL_law_1058 ?_
  refine lv_topi (fun v1058 e1058 => ?_)
  refine lv_aload_n hx hb dL_law_1059 rfl (lv_at hl 0 rfl) ?_
  refine lv_iload hx hb dL_law_1060 (lv_at hl 4 rfl) ?_
  refine lv_iconst (v := 2) hx hb dL_law_1062 (by decide) ?_
  refine lv_iadd hx hb dL_law_1063 ?_
  refine lv_topi (fun v1063 e1063 => ?_)
  have i1063 : v1063.toInt = i.toInt + 2 := zadd e1063 rfl (by decide) (by omega) (by omega)
  refine va_sld hx hb hX hbl hbA hS (vp_in_iff.mpr ⟨by omega, by omega⟩) dL_law_1064 ?_
  refine lv_topi (fun v1064 e1064 => ?_)
  refine k_X10_likely (rest := []) hcf hK3 hV hC hO hP hD hS (fun _ h => h) hl.1 (Nat.le_of_ble_eq_true rfl) (by show k + 0 ≤ 601024; omega) (by show n + 0 ≤ 7293034; omega) dL_law_1065 (fun v1065 C H locs hv1 hC hP hD hS => ?_)
  refine lv_pop hx hb dL_law_1068 rfl ?_
  refine lv_aload_n hx hb dL_law_1069 rfl (lv_at hl 2 rfl) ?_
  refine lv_aload_n hx hb dL_law_1070 rfl (lv_at hl 0 rfl) ?_
  refine lv_iload hx hb dL_law_1071 (lv_at hl 4 rfl) ?_
  refine lv_iconst (v := 1) hx hb dL_law_1073 (by decide) ?_
  refine lv_iadd hx hb dL_law_1074 ?_
  refine lv_topi (fun v1074 e1074 => ?_)
  have i1074 : v1074.toInt = i.toInt + 1 := zadd e1074 rfl (by decide) (by omega) (by omega)
  refine va_sld hx hb hX hbl hbA hS (vp_in_iff.mpr ⟨by omega, by omega⟩) dL_law_1075 ?_
  refine lv_topi (fun v1075 e1075 => ?_)
  refine lv_aload_n hx hb dL_law_1076 rfl (lv_at hl 0 rfl) ?_
  refine lv_iload hx hb dL_law_1077 (lv_at hl 4 rfl) ?_
  refine lv_iconst (v := 2) hx hb dL_law_1079 (by decide) ?_
  refine lv_iadd hx hb dL_law_1080 ?_
  refine lv_topi (fun v1080 e1080 => ?_)
  have i1080 : v1080.toInt = i.toInt + 2 := zadd e1080 rfl (by decide) (by omega) (by omega)
  refine va_sld hx hb hX hbl hbA hS (vp_in_iff.mpr ⟨by omega, by omega⟩) dL_law_1081 ?_
  refine lv_topi (fun v1081 e1081 => ?_)
  have hP := zRotP hP
  have hD := zRotD hD
  refine k_X11_likely (rest := []) hcf hK3 hV hR hO hP hD hS (fun _ h => h) hl.1 (Nat.le_of_ble_eq_true rfl) (by show k + 0 ≤ 601024; omega) (by show n + 0 ≤ 7293034; omega) dL_law_1082 (fun v1082 Rr H locs hv2 hR hP hD hS => ?_)
  have hP := zRotP' hP
  have hD := zRotD' hD
  have ev0 : v1075 = v1058 := by rw [e1075, e1058, e1074, e1057]
  rw [ev0] at hv2
  have ev1 : v1081 = v1064 := by rw [e1081, e1064, e1080, e1063]
  rw [ev1] at hv2
  have er : v1065.toInt = v1082.toInt := congrArg Int32.toInt (hv1.trans hv2.symm)
  refine lv_pop hx hb dL_law_1085 rfl ?_
  refine lv_goto (tgt := 1797) hx hb dL_law_1086 (by decide) ?_
  refine W.widen (k := k + 3) (n := n + 300) (by omega) (by omega) ?_
  exact J _ C Rr fo H locs ls hO hC hR hP hD hS (lv_sub hl [0, 1, 2, 3, 4] rfl)
set_option maxHeartbeats 4000000 in
set_option maxRecDepth 100000 in
theorem law_case_26 {p : Program} {l : Launch} {e : Env} {s : State} {m : MethodId} {below : List Frame} {meth : Method} {c : Code} {b L : Nat} {xs : Nat → Int32} {dC : Nat → ClassId} {dI : Nat → Nat → Nat} {cI cJ cQ : ClassId} {x0 m0 o0 : Nat} (hl0 : l.stackTraces = false) (C0 : lw_At p s m meth c b L xs) (hK3 : va_K (dC, dI) vwCl [(cI, .int), (cJ, .long), (cQ, .object "NinePortraits$Law")] s) (hV : zV (fun q : Nat => s.heap.size ≤ q) s) (hG : zG (fun q : Nat => s.heap.size ≤ q) s) (hCa : zCa s) (hL : L ≤ 3584) {sg : zSy} {C Rr : va_W} {fo : Nat → Int64} {i : Int32} {H : Heap} {locs : List Loc} {ls : Array Slot} {k n : Nat} (hO : zOkG sg) (hC : zCi cI cJ cQ x0 sg C) (hR : zRi cI m0 sg Rr) (hP : va_P (dC, dI) vwCl (C ++ ((o0, .inl (cJ, 1, .inr (.inl fo))) :: Rr)) H) (hD : va_D (fun q : Nat => s.heap.size ≤ q) (C ++ ((o0, .inl (cJ, 1, .inr (.inl fo))) :: Rr))) (hS : va_S (fun q : Nat => s.heap.size ≤ q) s.heap H locs) (hl : lv_has ls 7 [(0, .ref b), (1, .ref x0), (2, .ref m0), (3, .ref o0), (4, .int i)]) (hi0 : 0 ≤ i.toInt) (hiL : i.toInt + 7 ≤ (L : Int)) (hk : k + 3 ≤ 601024) (hn : n + 300 ≤ 7293034) (J : ∀ (sg : zSy) (C Rr : va_W) (fo : Nat → Int64) (H : Heap) (locs : List Loc) (ls : Array Slot), zOkG sg → zCi cI cJ cQ x0 sg C → zRi cI m0 sg Rr → va_P (dC, dI) vwCl (C ++ ((o0, .inl (cJ, 1, .inr (.inl fo))) :: Rr)) H → va_D (fun q : Nat => s.heap.size ≤ q) (C ++ ((o0, .inl (cJ, 1, .inr (.inl fo))) :: Rr)) → va_S (fun q : Nat => s.heap.size ≤ q) s.heap H locs → lv_has ls 7 [(0, .ref b), (1, .ref x0), (2, .ref m0), (3, .ref o0), (4, .int i)] → W p l e room_1 s m #[Value.ref b] below meth c H locs (k + 3) (n + 300) (lw_Z below #[Value.ref b] s) (F0 m 1797 ls [])) : W p l e room_1 s m #[Value.ref b] below meth c H locs k n (lw_Z below #[Value.ref b] s) (F0 m 1089 ls []) := by
  obtain ⟨hx, hb, hr, hml, hown, hts0, hX, hbl, hlocks, hgv⟩ := id C0
  have hts : ∀ w ∈ wA, w.before #[Value.ref b] s = true := fun w h => hts0 w (List.mem_filter.mp h).1
  have hown : s.vm.findClass RL = some m.cls := hown
  have hcf : CallFix p m c code 7 s #[Value.ref b] wA RL := ⟨hx, hb, hml, hown, hts⟩
  have hbA : ¬ (fun q : Nat => s.heap.size ≤ q) b := Nat.not_le.mpr hbl
  refine lv_aload_n hx hb dL_law_1089 rfl (lv_at hl 1 rfl) ?_
  refine lv_aload_n hx hb dL_law_1090 rfl (lv_at hl 0 rfl) ?_
  refine lv_iload hx hb dL_law_1091 (lv_at hl 4 rfl) ?_
  refine lv_iconst (v := 1) hx hb dL_law_1093 (by decide) ?_
  refine lv_iadd hx hb dL_law_1094 ?_
  refine lv_topi (fun v1094 e1094 => ?_)
  have i1094 : v1094.toInt = i.toInt + 1 := zadd e1094 rfl (by decide) (by omega) (by omega)
  refine va_sld hx hb hX hbl hbA hS (vp_in_iff.mpr ⟨by omega, by omega⟩) dL_law_1095 ?_
  refine lv_topi (fun v1095 e1095 => ?_)
  refine lv_aload_n hx hb dL_law_1096 rfl (lv_at hl 0 rfl) ?_
  refine lv_iload hx hb dL_law_1097 (lv_at hl 4 rfl) ?_
  refine lv_iconst (v := 2) hx hb dL_law_1099 (by decide) ?_
  refine lv_iadd hx hb dL_law_1100 ?_
  refine lv_topi (fun v1100 e1100 => ?_)
  have i1100 : v1100.toInt = i.toInt + 2 := zadd e1100 rfl (by decide) (by omega) (by omega)
  refine va_sld hx hb hX hbl hbA hS (vp_in_iff.mpr ⟨by omega, by omega⟩) dL_law_1101 ?_
  refine lv_topi (fun v1101 e1101 => ?_)
  refine k_X10_sure (rest := []) hcf hK3 hV hC hO hP hD hS (fun _ h => h) hl.1 (Nat.le_of_ble_eq_true rfl) (by show k + 0 ≤ 601024; omega) (by show n + 0 ≤ 7293034; omega) dL_law_1102 (fun v1102 C H locs hv1 hC hP hD hS => ?_)
  refine lv_pop hx hb dL_law_1105 rfl ?_
  refine lv_aload_n hx hb dL_law_1106 rfl (lv_at hl 2 rfl) ?_
  refine lv_aload_n hx hb dL_law_1107 rfl (lv_at hl 0 rfl) ?_
  refine lv_iload hx hb dL_law_1108 (lv_at hl 4 rfl) ?_
  refine lv_iconst (v := 1) hx hb dL_law_1110 (by decide) ?_
  refine lv_iadd hx hb dL_law_1111 ?_
  refine lv_topi (fun v1111 e1111 => ?_)
  have i1111 : v1111.toInt = i.toInt + 1 := zadd e1111 rfl (by decide) (by omega) (by omega)
  refine va_sld hx hb hX hbl hbA hS (vp_in_iff.mpr ⟨by omega, by omega⟩) dL_law_1112 ?_
  refine lv_topi (fun v1112 e1112 => ?_)
  refine lv_aload_n hx hb dL_law_1113 rfl (lv_at hl 0 rfl) ?_
  refine lv_iload hx hb dL_law_1114 (lv_at hl 4 rfl) ?_
  refine lv_iconst (v := 2) hx hb dL_law_1116 (by decide) ?_
  refine lv_iadd hx hb dL_law_1117 ?_
  refine lv_topi (fun v1117 e1117 => ?_)
  have i1117 : v1117.toInt = i.toInt + 2 := zadd e1117 rfl (by decide) (by omega) (by omega)
  refine va_sld hx hb hX hbl hbA hS (vp_in_iff.mpr ⟨by omega, by omega⟩) dL_law_1118 ?_
  refine lv_topi (fun v1118 e1118 => ?_)
  have hP := zRotP hP
  have hD := zRotD hD
  refine k_X11_sure (rest := []) hcf hK3 hV hR hO hP hD hS (fun _ h => h) hl.1 (Nat.le_of_ble_eq_true rfl) (by show k + 0 ≤ 601024; omega) (by show n + 0 ≤ 7293034; omega) dL_law_1119 (fun v1119 Rr H locs hv2 hR hP hD hS => ?_)
  have hP := zRotP' hP
  have hD := zRotD' hD
  have ev0 : v1112 = v1095 := by rw [e1112, e1095, e1111, e1094]
  rw [ev0] at hv2
  have ev1 : v1118 = v1101 := by rw [e1118, e1101, e1117, e1100]
  rw [ev1] at hv2
  have er : v1102.toInt = v1119.toInt := congrArg Int32.toInt (hv1.trans hv2.symm)
  refine lv_pop hx hb dL_law_1122 rfl ?_
  refine lv_goto (tgt := 1797) hx hb dL_law_1123 (by decide) ?_
  refine W.widen (k := k + 3) (n := n + 300) (by omega) (by omega) ?_
  exact J _ C Rr fo H locs ls hO hC hR hP hD hS (lv_sub hl [0, 1, 2, 3, 4] rfl)
set_option maxHeartbeats 4000000 in
set_option maxRecDepth 100000 in
theorem law_case_27 {p : Program} {l : Launch} {e : Env} {s : State} {m : MethodId} {below : List Frame} {meth : Method} {c : Code} {b L : Nat} {xs : Nat → Int32} {dC : Nat → ClassId} {dI : Nat → Nat → Nat} {cI cJ cQ : ClassId} {x0 m0 o0 : Nat} (hl0 : l.stackTraces = false) (C0 : lw_At p s m meth c b L xs) (hK3 : va_K (dC, dI) vwCl [(cI, .int), (cJ, .long), (cQ, .object "NinePortraits$Law")] s) (hV : zV (fun q : Nat => s.heap.size ≤ q) s) (hG : zG (fun q : Nat => s.heap.size ≤ q) s) (hCa : zCa s) (hL : L ≤ 3584) {sg : zSy} {C Rr : va_W} {fo : Nat → Int64} {i : Int32} {H : Heap} {locs : List Loc} {ls : Array Slot} {k n : Nat} (hO : zOkG sg) (hC : zCi cI cJ cQ x0 sg C) (hR : zRi cI m0 sg Rr) (hP : va_P (dC, dI) vwCl (C ++ ((o0, .inl (cJ, 1, .inr (.inl fo))) :: Rr)) H) (hD : va_D (fun q : Nat => s.heap.size ≤ q) (C ++ ((o0, .inl (cJ, 1, .inr (.inl fo))) :: Rr))) (hS : va_S (fun q : Nat => s.heap.size ≤ q) s.heap H locs) (hl : lv_has ls 7 [(0, .ref b), (1, .ref x0), (2, .ref m0), (3, .ref o0), (4, .int i)]) (hi0 : 0 ≤ i.toInt) (hiL : i.toInt + 7 ≤ (L : Int)) (hk : k + 3 ≤ 601024) (hn : n + 300 ≤ 7293034) (J : ∀ (sg : zSy) (C Rr : va_W) (fo : Nat → Int64) (H : Heap) (locs : List Loc) (ls : Array Slot), zOkG sg → zCi cI cJ cQ x0 sg C → zRi cI m0 sg Rr → va_P (dC, dI) vwCl (C ++ ((o0, .inl (cJ, 1, .inr (.inl fo))) :: Rr)) H → va_D (fun q : Nat => s.heap.size ≤ q) (C ++ ((o0, .inl (cJ, 1, .inr (.inl fo))) :: Rr)) → va_S (fun q : Nat => s.heap.size ≤ q) s.heap H locs → lv_has ls 7 [(0, .ref b), (1, .ref x0), (2, .ref m0), (3, .ref o0), (4, .int i)] → W p l e room_1 s m #[Value.ref b] below meth c H locs (k + 3) (n + 300) (lw_Z below #[Value.ref b] s) (F0 m 1797 ls [])) : W p l e room_1 s m #[Value.ref b] below meth c H locs k n (lw_Z below #[Value.ref b] s) (F0 m 1126 ls []) := by
  obtain ⟨hx, hb, hr, hml, hown, hts0, hX, hbl, hlocks, hgv⟩ := id C0
  have hts : ∀ w ∈ wA, w.before #[Value.ref b] s = true := fun w h => hts0 w (List.mem_filter.mp h).1
  have hown : s.vm.findClass RL = some m.cls := hown
  have hcf : CallFix p m c code 7 s #[Value.ref b] wA RL := ⟨hx, hb, hml, hown, hts⟩
  have hbA : ¬ (fun q : Nat => s.heap.size ≤ q) b := Nat.not_le.mpr hbl
  refine lv_aload_n hx hb dL_law_1126 rfl (lv_at hl 1 rfl) ?_
  refine lv_aload_n hx hb dL_law_1127 rfl (lv_at hl 0 rfl) ?_
  refine lv_iload hx hb dL_law_1128 (lv_at hl 4 rfl) ?_
  refine lv_iconst (v := 1) hx hb dL_law_1130 (by decide) ?_
  refine lv_iadd hx hb dL_law_1131 ?_
  refine lv_topi (fun v1131 e1131 => ?_)
  have i1131 : v1131.toInt = i.toInt + 1 := zadd e1131 rfl (by decide) (by omega) (by omega)
  refine va_sld hx hb hX hbl hbA hS (vp_in_iff.mpr ⟨by omega, by omega⟩) dL_law_1132 ?_
  refine lv_topi (fun v1132 e1132 => ?_)
  refine k_X10_next (rest := []) hcf hK3 hV hC hO hP hD hS (fun _ h => h) hl.1 (Nat.le_of_ble_eq_true rfl) (by show k + 0 ≤ 601024; omega) (by show n + 0 ≤ 7293034; omega) dL_law_1133 (fun v1133 C H locs hv1 hC hP hD hS => ?_)
  refine lv_pop hx hb dL_law_1136 rfl ?_
  refine lv_aload_n hx hb dL_law_1137 rfl (lv_at hl 2 rfl) ?_
  refine lv_aload_n hx hb dL_law_1138 rfl (lv_at hl 0 rfl) ?_
  refine lv_iload hx hb dL_law_1139 (lv_at hl 4 rfl) ?_
  refine lv_iconst (v := 1) hx hb dL_law_1141 (by decide) ?_
  refine lv_iadd hx hb dL_law_1142 ?_
  refine lv_topi (fun v1142 e1142 => ?_)
  have i1142 : v1142.toInt = i.toInt + 1 := zadd e1142 rfl (by decide) (by omega) (by omega)
  refine va_sld hx hb hX hbl hbA hS (vp_in_iff.mpr ⟨by omega, by omega⟩) dL_law_1143 ?_
  refine lv_topi (fun v1143 e1143 => ?_)
  have hP := zRotP hP
  have hD := zRotD hD
  refine k_X11_next (rest := []) hcf hK3 hV hR hO hP hD hS (fun _ h => h) hl.1 (Nat.le_of_ble_eq_true rfl) (by show k + 0 ≤ 601024; omega) (by show n + 0 ≤ 7293034; omega) dL_law_1144 (fun v1144 Rr H locs hv2 hR hP hD hS => ?_)
  have hP := zRotP' hP
  have hD := zRotD' hD
  have ev0 : v1143 = v1132 := by rw [e1143, e1132, e1142, e1131]
  rw [ev0] at hv2
  have er : v1133.toInt = v1144.toInt := hv1.trans hv2.symm
  refine lv_pop hx hb dL_law_1147 rfl ?_
  refine lv_goto (tgt := 1797) hx hb dL_law_1148 (by decide) ?_
  refine W.widen (k := k + 3) (n := n + 300) (by omega) (by omega) ?_
  exact J _ C Rr fo H locs ls hO hC hR hP hD hS (lv_sub hl [0, 1, 2, 3, 4] rfl)
set_option maxHeartbeats 4000000 in
set_option maxRecDepth 100000 in
theorem law_case_28 {p : Program} {l : Launch} {e : Env} {s : State} {m : MethodId} {below : List Frame} {meth : Method} {c : Code} {b L : Nat} {xs : Nat → Int32} {dC : Nat → ClassId} {dI : Nat → Nat → Nat} {cI cJ cQ : ClassId} {x0 m0 o0 : Nat} (hl0 : l.stackTraces = false) (C0 : lw_At p s m meth c b L xs) (hK3 : va_K (dC, dI) vwCl [(cI, .int), (cJ, .long), (cQ, .object "NinePortraits$Law")] s) (hV : zV (fun q : Nat => s.heap.size ≤ q) s) (hG : zG (fun q : Nat => s.heap.size ≤ q) s) (hCa : zCa s) (hL : L ≤ 3584) {sg : zSy} {C Rr : va_W} {fo : Nat → Int64} {i : Int32} {H : Heap} {locs : List Loc} {ls : Array Slot} {k n : Nat} (hO : zOkG sg) (hC : zCi cI cJ cQ x0 sg C) (hR : zRi cI m0 sg Rr) (hP : va_P (dC, dI) vwCl (C ++ ((o0, .inl (cJ, 1, .inr (.inl fo))) :: Rr)) H) (hD : va_D (fun q : Nat => s.heap.size ≤ q) (C ++ ((o0, .inl (cJ, 1, .inr (.inl fo))) :: Rr))) (hS : va_S (fun q : Nat => s.heap.size ≤ q) s.heap H locs) (hl : lv_has ls 7 [(0, .ref b), (1, .ref x0), (2, .ref m0), (3, .ref o0), (4, .int i)]) (hi0 : 0 ≤ i.toInt) (hiL : i.toInt + 7 ≤ (L : Int)) (hk : k + 3 ≤ 601024) (hn : n + 300 ≤ 7293034) (J : ∀ (sg : zSy) (C Rr : va_W) (fo : Nat → Int64) (H : Heap) (locs : List Loc) (ls : Array Slot), zOkG sg → zCi cI cJ cQ x0 sg C → zRi cI m0 sg Rr → va_P (dC, dI) vwCl (C ++ ((o0, .inl (cJ, 1, .inr (.inl fo))) :: Rr)) H → va_D (fun q : Nat => s.heap.size ≤ q) (C ++ ((o0, .inl (cJ, 1, .inr (.inl fo))) :: Rr)) → va_S (fun q : Nat => s.heap.size ≤ q) s.heap H locs → lv_has ls 7 [(0, .ref b), (1, .ref x0), (2, .ref m0), (3, .ref o0), (4, .int i)] → W p l e room_1 s m #[Value.ref b] below meth c H locs (k + 3) (n + 300) (lw_Z below #[Value.ref b] s) (F0 m 1797 ls [])) : W p l e room_1 s m #[Value.ref b] below meth c H locs k n (lw_Z below #[Value.ref b] s) (F0 m 1151 ls []) := by
  obtain ⟨hx, hb, hr, hml, hown, hts0, hX, hbl, hlocks, hgv⟩ := id C0
  have hts : ∀ w ∈ wA, w.before #[Value.ref b] s = true := fun w h => hts0 w (List.mem_filter.mp h).1
  have hown : s.vm.findClass RL = some m.cls := hown
  have hcf : CallFix p m c code 7 s #[Value.ref b] wA RL := ⟨hx, hb, hml, hown, hts⟩
  have hbA : ¬ (fun q : Nat => s.heap.size ≤ q) b := Nat.not_le.mpr hbl
  refine lv_aload_n hx hb dL_law_1151 rfl (lv_at hl 1 rfl) ?_
  refine lv_aload_n hx hb dL_law_1152 rfl (lv_at hl 0 rfl) ?_
  refine lv_iload hx hb dL_law_1153 (lv_at hl 4 rfl) ?_
  refine lv_iconst (v := 1) hx hb dL_law_1155 (by decide) ?_
  refine lv_iadd hx hb dL_law_1156 ?_
  refine lv_topi (fun v1156 e1156 => ?_)
  have i1156 : v1156.toInt = i.toInt + 1 := zadd e1156 rfl (by decide) (by omega) (by omega)
  refine va_sld hx hb hX hbl hbA hS (vp_in_iff.mpr ⟨by omega, by omega⟩) dL_law_1157 ?_
  refine lv_topi (fun v1157 e1157 => ?_)
  refine k_X10_apart (rest := []) hcf hK3 hV hC hO hP hD hS (fun _ h => h) hl.1 (Nat.le_of_ble_eq_true rfl) (by show k + 0 ≤ 601024; omega) (by show n + 0 ≤ 7293034; omega) dL_law_1158 (fun v1158 C H locs hv1 hC hP hD hS => ?_)
  refine lv_pop hx hb dL_law_1161 rfl ?_
  refine lv_aload_n hx hb dL_law_1162 rfl (lv_at hl 2 rfl) ?_
  refine lv_aload_n hx hb dL_law_1163 rfl (lv_at hl 0 rfl) ?_
  refine lv_iload hx hb dL_law_1164 (lv_at hl 4 rfl) ?_
  refine lv_iconst (v := 1) hx hb dL_law_1166 (by decide) ?_
  refine lv_iadd hx hb dL_law_1167 ?_
  refine lv_topi (fun v1167 e1167 => ?_)
  have i1167 : v1167.toInt = i.toInt + 1 := zadd e1167 rfl (by decide) (by omega) (by omega)
  refine va_sld hx hb hX hbl hbA hS (vp_in_iff.mpr ⟨by omega, by omega⟩) dL_law_1168 ?_
  refine lv_topi (fun v1168 e1168 => ?_)
  have hP := zRotP hP
  have hD := zRotD hD
  refine k_X11_apart (rest := []) hcf hK3 hV hR hO hP hD hS (fun _ h => h) hl.1 (Nat.le_of_ble_eq_true rfl) (by show k + 0 ≤ 601024; omega) (by show n + 0 ≤ 7293034; omega) dL_law_1169 (fun v1169 Rr H locs hv2 hR hP hD hS => ?_)
  have hP := zRotP' hP
  have hD := zRotD' hD
  have ev0 : v1168 = v1157 := by rw [e1168, e1157, e1167, e1156]
  rw [ev0] at hv2
  have er : v1158.toInt = v1169.toInt := hv1.trans hv2.symm
  refine lv_pop hx hb dL_law_1172 rfl ?_
  refine lv_goto (tgt := 1797) hx hb dL_law_1173 (by decide) ?_
  refine W.widen (k := k + 3) (n := n + 300) (by omega) (by omega) ?_
  exact J _ C Rr fo H locs ls hO hC hR hP hD hS (lv_sub hl [0, 1, 2, 3, 4] rfl)
set_option maxHeartbeats 4000000 in
set_option maxRecDepth 100000 in
theorem law_case_29 {p : Program} {l : Launch} {e : Env} {s : State} {m : MethodId} {below : List Frame} {meth : Method} {c : Code} {b L : Nat} {xs : Nat → Int32} {dC : Nat → ClassId} {dI : Nat → Nat → Nat} {cI cJ cQ : ClassId} {x0 m0 o0 : Nat} (hl0 : l.stackTraces = false) (C0 : lw_At p s m meth c b L xs) (hK3 : va_K (dC, dI) vwCl [(cI, .int), (cJ, .long), (cQ, .object "NinePortraits$Law")] s) (hV : zV (fun q : Nat => s.heap.size ≤ q) s) (hG : zG (fun q : Nat => s.heap.size ≤ q) s) (hCa : zCa s) (hL : L ≤ 3584) {sg : zSy} {C Rr : va_W} {fo : Nat → Int64} {i : Int32} {H : Heap} {locs : List Loc} {ls : Array Slot} {k n : Nat} (hO : zOkG sg) (hC : zCi cI cJ cQ x0 sg C) (hR : zRi cI m0 sg Rr) (hP : va_P (dC, dI) vwCl (C ++ ((o0, .inl (cJ, 1, .inr (.inl fo))) :: Rr)) H) (hD : va_D (fun q : Nat => s.heap.size ≤ q) (C ++ ((o0, .inl (cJ, 1, .inr (.inl fo))) :: Rr))) (hS : va_S (fun q : Nat => s.heap.size ≤ q) s.heap H locs) (hl : lv_has ls 7 [(0, .ref b), (1, .ref x0), (2, .ref m0), (3, .ref o0), (4, .int i)]) (hi0 : 0 ≤ i.toInt) (hiL : i.toInt + 7 ≤ (L : Int)) (hk : k + 3 ≤ 601024) (hn : n + 300 ≤ 7293034) (J : ∀ (sg : zSy) (C Rr : va_W) (fo : Nat → Int64) (H : Heap) (locs : List Loc) (ls : Array Slot), zOkG sg → zCi cI cJ cQ x0 sg C → zRi cI m0 sg Rr → va_P (dC, dI) vwCl (C ++ ((o0, .inl (cJ, 1, .inr (.inl fo))) :: Rr)) H → va_D (fun q : Nat => s.heap.size ≤ q) (C ++ ((o0, .inl (cJ, 1, .inr (.inl fo))) :: Rr)) → va_S (fun q : Nat => s.heap.size ≤ q) s.heap H locs → lv_has ls 7 [(0, .ref b), (1, .ref x0), (2, .ref m0), (3, .ref o0), (4, .int i)] → W p l e room_1 s m #[Value.ref b] below meth c H locs (k + 3) (n + 300) (lw_Z below #[Value.ref b] s) (F0 m 1797 ls [])) : W p l e room_1 s m #[Value.ref b] below meth c H locs k n (lw_Z below #[Value.ref b] s) (F0 m 1176 ls []) := by
  obtain ⟨hx, hb, hr, hml, hown, hts0, hX, hbl, hlocks, hgv⟩ := id C0
  have hts : ∀ w ∈ wA, w.before #[Value.ref b] s = true := fun w h => hts0 w (List.mem_filter.mp h).1
  have hown : s.vm.findClass RL = some m.cls := hown
  have hcf : CallFix p m c code 7 s #[Value.ref b] wA RL := ⟨hx, hb, hml, hown, hts⟩
  have hbA : ¬ (fun q : Nat => s.heap.size ≤ q) b := Nat.not_le.mpr hbl
  refine lv_aload_n hx hb dL_law_1176 rfl (lv_at hl 1 rfl) ?_
  refine lv_aload_n hx hb dL_law_1177 rfl (lv_at hl 0 rfl) ?_
  refine lv_iload hx hb dL_law_1178 (lv_at hl 4 rfl) ?_
  refine lv_iconst (v := 1) hx hb dL_law_1180 (by decide) ?_
  refine lv_iadd hx hb dL_law_1181 ?_
  refine lv_topi (fun v1181 e1181 => ?_)
  have i1181 : v1181.toInt = i.toInt + 1 := zadd e1181 rfl (by decide) (by omega) (by omega)
  refine va_sld hx hb hX hbl hbA hS (vp_in_iff.mpr ⟨by omega, by omega⟩) dL_law_1182 ?_
  refine lv_topi (fun v1182 e1182 => ?_)
  refine lv_aload_n hx hb dL_law_1183 rfl (lv_at hl 0 rfl) ?_
  refine lv_iload hx hb dL_law_1184 (lv_at hl 4 rfl) ?_
  refine lv_iconst (v := 2) hx hb dL_law_1186 (by decide) ?_
  refine lv_iadd hx hb dL_law_1187 ?_
  refine lv_topi (fun v1187 e1187 => ?_)
  have i1187 : v1187.toInt = i.toInt + 2 := zadd e1187 rfl (by decide) (by omega) (by omega)
  refine va_sld hx hb hX hbl hbA hS (vp_in_iff.mpr ⟨by omega, by omega⟩) dL_law_1188 ?_
  refine lv_topi (fun v1188 e1188 => ?_)
  refine k_X10_worth (rest := []) hcf hK3 hV hC hO hP hD hS (fun _ h => h) hl.1 (Nat.le_of_ble_eq_true rfl) (by show k + 0 ≤ 601024; omega) (by show n + 0 ≤ 7293034; omega) dL_law_1189 (fun v1189 C H locs hv1 hC hP hD hS => ?_)
  refine lv_pop hx hb dL_law_1192 rfl ?_
  refine lv_aload_n hx hb dL_law_1193 rfl (lv_at hl 2 rfl) ?_
  refine lv_aload_n hx hb dL_law_1194 rfl (lv_at hl 0 rfl) ?_
  refine lv_iload hx hb dL_law_1195 (lv_at hl 4 rfl) ?_
  refine lv_iconst (v := 1) hx hb dL_law_1197 (by decide) ?_
  refine lv_iadd hx hb dL_law_1198 ?_
  refine lv_topi (fun v1198 e1198 => ?_)
  have i1198 : v1198.toInt = i.toInt + 1 := zadd e1198 rfl (by decide) (by omega) (by omega)
  refine va_sld hx hb hX hbl hbA hS (vp_in_iff.mpr ⟨by omega, by omega⟩) dL_law_1199 ?_
  refine lv_topi (fun v1199 e1199 => ?_)
  refine lv_aload_n hx hb dL_law_1200 rfl (lv_at hl 0 rfl) ?_
  refine lv_iload hx hb dL_law_1201 (lv_at hl 4 rfl) ?_
  refine lv_iconst (v := 2) hx hb dL_law_1203 (by decide) ?_
  refine lv_iadd hx hb dL_law_1204 ?_
  refine lv_topi (fun v1204 e1204 => ?_)
  have i1204 : v1204.toInt = i.toInt + 2 := zadd e1204 rfl (by decide) (by omega) (by omega)
  refine va_sld hx hb hX hbl hbA hS (vp_in_iff.mpr ⟨by omega, by omega⟩) dL_law_1205 ?_
  refine lv_topi (fun v1205 e1205 => ?_)
  have hP := zRotP hP
  have hD := zRotD hD
  refine k_X11_worth (rest := []) hcf hK3 hV hR hO hP hD hS (fun _ h => h) hl.1 (Nat.le_of_ble_eq_true rfl) (by show k + 0 ≤ 601024; omega) (by show n + 0 ≤ 7293034; omega) dL_law_1206 (fun v1206 Rr H locs hv2 hR hP hD hS => ?_)
  have hP := zRotP' hP
  have hD := zRotD' hD
  have ev0 : v1199 = v1182 := by rw [e1199, e1182, e1198, e1181]
  rw [ev0] at hv2
  have ev1 : v1205 = v1188 := by rw [e1205, e1188, e1204, e1187]
  rw [ev1] at hv2
  have er : v1189.toInt = v1206.toInt := congrArg Int32.toInt (hv1.trans hv2.symm)
  refine lv_pop hx hb dL_law_1209 rfl ?_
  refine lv_goto (tgt := 1797) hx hb dL_law_1210 (by decide) ?_
  refine W.widen (k := k + 3) (n := n + 300) (by omega) (by omega) ?_
  exact J _ C Rr fo H locs ls hO hC hR hP hD hS (lv_sub hl [0, 1, 2, 3, 4] rfl)
set_option maxHeartbeats 4000000 in
set_option maxRecDepth 100000 in
theorem law_case_30 {p : Program} {l : Launch} {e : Env} {s : State} {m : MethodId} {below : List Frame} {meth : Method} {c : Code} {b L : Nat} {xs : Nat → Int32} {dC : Nat → ClassId} {dI : Nat → Nat → Nat} {cI cJ cQ : ClassId} {x0 m0 o0 : Nat} (hl0 : l.stackTraces = false) (C0 : lw_At p s m meth c b L xs) (hK3 : va_K (dC, dI) vwCl [(cI, .int), (cJ, .long), (cQ, .object "NinePortraits$Law")] s) (hV : zV (fun q : Nat => s.heap.size ≤ q) s) (hG : zG (fun q : Nat => s.heap.size ≤ q) s) (hCa : zCa s) (hL : L ≤ 3584) {sg : zSy} {C Rr : va_W} {fo : Nat → Int64} {i : Int32} {H : Heap} {locs : List Loc} {ls : Array Slot} {k n : Nat} (hO : zOkG sg) (hC : zCi cI cJ cQ x0 sg C) (hR : zRi cI m0 sg Rr) (hP : va_P (dC, dI) vwCl (C ++ ((o0, .inl (cJ, 1, .inr (.inl fo))) :: Rr)) H) (hD : va_D (fun q : Nat => s.heap.size ≤ q) (C ++ ((o0, .inl (cJ, 1, .inr (.inl fo))) :: Rr))) (hS : va_S (fun q : Nat => s.heap.size ≤ q) s.heap H locs) (hl : lv_has ls 7 [(0, .ref b), (1, .ref x0), (2, .ref m0), (3, .ref o0), (4, .int i)]) (hi0 : 0 ≤ i.toInt) (hiL : i.toInt + 7 ≤ (L : Int)) (hk : k + 3 ≤ 601024) (hn : n + 300 ≤ 7293034) (J : ∀ (sg : zSy) (C Rr : va_W) (fo : Nat → Int64) (H : Heap) (locs : List Loc) (ls : Array Slot), zOkG sg → zCi cI cJ cQ x0 sg C → zRi cI m0 sg Rr → va_P (dC, dI) vwCl (C ++ ((o0, .inl (cJ, 1, .inr (.inl fo))) :: Rr)) H → va_D (fun q : Nat => s.heap.size ≤ q) (C ++ ((o0, .inl (cJ, 1, .inr (.inl fo))) :: Rr)) → va_S (fun q : Nat => s.heap.size ≤ q) s.heap H locs → lv_has ls 7 [(0, .ref b), (1, .ref x0), (2, .ref m0), (3, .ref o0), (4, .int i)] → W p l e room_1 s m #[Value.ref b] below meth c H locs (k + 3) (n + 300) (lw_Z below #[Value.ref b] s) (F0 m 1797 ls [])) : W p l e room_1 s m #[Value.ref b] below meth c H locs k n (lw_Z below #[Value.ref b] s) (F0 m 1213 ls []) := by
  obtain ⟨hx, hb, hr, hml, hown, hts0, hX, hbl, hlocks, hgv⟩ := id C0
  have hts : ∀ w ∈ wA, w.before #[Value.ref b] s = true := fun w h => hts0 w (List.mem_filter.mp h).1
  have hown : s.vm.findClass RL = some m.cls := hown
  have hcf : CallFix p m c code 7 s #[Value.ref b] wA RL := ⟨hx, hb, hml, hown, hts⟩
  have hbA : ¬ (fun q : Nat => s.heap.size ≤ q) b := Nat.not_le.mpr hbl
  refine lv_aload_n hx hb dL_law_1213 rfl (lv_at hl 1 rfl) ?_
  refine lv_aload_n hx hb dL_law_1214 rfl (lv_at hl 0 rfl) ?_
  refine lv_iload hx hb dL_law_1215 (lv_at hl 4 rfl) ?_
  refine lv_iconst (v := 1) hx hb dL_law_1217 (by decide) ?_
  refine lv_iadd hx hb dL_law_1218 ?_
  refine lv_topi (fun v1218 e1218 => ?_)
  have i1218 : v1218.toInt = i.toInt + 1 := zadd e1218 rfl (by decide) (by omega) (by omega)
  refine va_sld hx hb hX hbl hbA hS (vp_in_iff.mpr ⟨by omega, by omega⟩) dL_law_1219 ?_
  refine lv_topi (fun v1219 e1219 => ?_)
  refine k_X10_chooses (rest := []) hcf hK3 hV hC hO hP hD hS (fun _ h => h) hl.1 (Nat.le_of_ble_eq_true rfl) (by show k + 0 ≤ 601024; omega) (by show n + 0 ≤ 7293034; omega) dL_law_1220 (fun v1220 C H locs hC hP hD hS => ?_)
  refine lv_pop hx hb dL_law_1223 rfl ?_
  refine lv_aload_n hx hb dL_law_1224 rfl (lv_at hl 2 rfl) ?_
  refine lv_aload_n hx hb dL_law_1225 rfl (lv_at hl 0 rfl) ?_
  refine lv_iload hx hb dL_law_1226 (lv_at hl 4 rfl) ?_
  refine lv_iconst (v := 1) hx hb dL_law_1228 (by decide) ?_
  refine lv_iadd hx hb dL_law_1229 ?_
  refine lv_topi (fun v1229 e1229 => ?_)
  have i1229 : v1229.toInt = i.toInt + 1 := zadd e1229 rfl (by decide) (by omega) (by omega)
  refine va_sld hx hb hX hbl hbA hS (vp_in_iff.mpr ⟨by omega, by omega⟩) dL_law_1230 ?_
  refine lv_topi (fun v1230 e1230 => ?_)
  have hP := zRotP hP
  have hD := zRotD hD
  refine k_X11_chooses (rest := []) hcf hK3 hV hR hO hP hD hS (fun _ h => h) hl.1 (Nat.le_of_ble_eq_true rfl) (by show k + 0 ≤ 601024; omega) (by show n + 0 ≤ 7293034; omega) dL_law_1231 (fun v1231 Rr H locs hR hP hD hS => ?_)
  have hP := zRotP' hP
  have hD := zRotD' hD
  refine lv_pop hx hb dL_law_1234 rfl ?_
  refine lv_goto (tgt := 1797) hx hb dL_law_1235 (by decide) ?_
  refine W.widen (k := k + 3) (n := n + 300) (by omega) (by omega) ?_
  exact J _ C Rr fo H locs ls hO hC hR hP hD hS (lv_sub hl [0, 1, 2, 3, 4] rfl)
set_option maxHeartbeats 4000000 in
set_option maxRecDepth 100000 in
theorem law_case_31 {p : Program} {l : Launch} {e : Env} {s : State} {m : MethodId} {below : List Frame} {meth : Method} {c : Code} {b L : Nat} {xs : Nat → Int32} {dC : Nat → ClassId} {dI : Nat → Nat → Nat} {cI cJ cQ : ClassId} {x0 m0 o0 : Nat} (hl0 : l.stackTraces = false) (C0 : lw_At p s m meth c b L xs) (hK3 : va_K (dC, dI) vwCl [(cI, .int), (cJ, .long), (cQ, .object "NinePortraits$Law")] s) (hV : zV (fun q : Nat => s.heap.size ≤ q) s) (hG : zG (fun q : Nat => s.heap.size ≤ q) s) (hCa : zCa s) (hL : L ≤ 3584) {sg : zSy} {C Rr : va_W} {fo : Nat → Int64} {i : Int32} {H : Heap} {locs : List Loc} {ls : Array Slot} {k n : Nat} (hO : zOkG sg) (hC : zCi cI cJ cQ x0 sg C) (hR : zRi cI m0 sg Rr) (hP : va_P (dC, dI) vwCl (C ++ ((o0, .inl (cJ, 1, .inr (.inl fo))) :: Rr)) H) (hD : va_D (fun q : Nat => s.heap.size ≤ q) (C ++ ((o0, .inl (cJ, 1, .inr (.inl fo))) :: Rr))) (hS : va_S (fun q : Nat => s.heap.size ≤ q) s.heap H locs) (hl : lv_has ls 7 [(0, .ref b), (1, .ref x0), (2, .ref m0), (3, .ref o0), (4, .int i)]) (hi0 : 0 ≤ i.toInt) (hiL : i.toInt + 7 ≤ (L : Int)) (hk : k + 3 ≤ 601024) (hn : n + 300 ≤ 7293034) (J : ∀ (sg : zSy) (C Rr : va_W) (fo : Nat → Int64) (H : Heap) (locs : List Loc) (ls : Array Slot), zOkG sg → zCi cI cJ cQ x0 sg C → zRi cI m0 sg Rr → va_P (dC, dI) vwCl (C ++ ((o0, .inl (cJ, 1, .inr (.inl fo))) :: Rr)) H → va_D (fun q : Nat => s.heap.size ≤ q) (C ++ ((o0, .inl (cJ, 1, .inr (.inl fo))) :: Rr)) → va_S (fun q : Nat => s.heap.size ≤ q) s.heap H locs → lv_has ls 7 [(0, .ref b), (1, .ref x0), (2, .ref m0), (3, .ref o0), (4, .int i)] → W p l e room_1 s m #[Value.ref b] below meth c H locs (k + 3) (n + 300) (lw_Z below #[Value.ref b] s) (F0 m 1797 ls [])) : W p l e room_1 s m #[Value.ref b] below meth c H locs k n (lw_Z below #[Value.ref b] s) (F0 m 1238 ls []) := by
  obtain ⟨hx, hb, hr, hml, hown, hts0, hX, hbl, hlocks, hgv⟩ := id C0
  have hts : ∀ w ∈ wA, w.before #[Value.ref b] s = true := fun w h => hts0 w (List.mem_filter.mp h).1
  have hown : s.vm.findClass RL = some m.cls := hown
  have hcf : CallFix p m c code 7 s #[Value.ref b] wA RL := ⟨hx, hb, hml, hown, hts⟩
  have hbA : ¬ (fun q : Nat => s.heap.size ≤ q) b := Nat.not_le.mpr hbl
  refine lv_aload_n hx hb dL_law_1238 rfl (lv_at hl 1 rfl) ?_
  refine lv_aload_n hx hb dL_law_1239 rfl (lv_at hl 0 rfl) ?_
  refine lv_iload hx hb dL_law_1240 (lv_at hl 4 rfl) ?_
  refine lv_iconst (v := 1) hx hb dL_law_1242 (by decide) ?_
  refine lv_iadd hx hb dL_law_1243 ?_
  refine lv_topi (fun v1243 e1243 => ?_)
  have i1243 : v1243.toInt = i.toInt + 1 := zadd e1243 rfl (by decide) (by omega) (by omega)
  refine va_sld hx hb hX hbl hbA hS (vp_in_iff.mpr ⟨by omega, by omega⟩) dL_law_1244 ?_
  refine lv_topi (fun v1244 e1244 => ?_)
  refine lv_aload_n hx hb dL_law_1245 rfl (lv_at hl 0 rfl) ?_
  refine lv_iload hx hb dL_law_1246 (lv_at hl 4 rfl) ?_
  refine lv_iconst (v := 2) hx hb dL_law_1248 (by decide) ?_
  refine lv_iadd hx hb dL_law_1249 ?_
  refine lv_topi (fun v1249 e1249 => ?_)
  have i1249 : v1249.toInt = i.toInt + 2 := zadd e1249 rfl (by decide) (by omega) (by omega)
  refine va_sld hx hb hX hbl hbA hS (vp_in_iff.mpr ⟨by omega, by omega⟩) dL_law_1250 ?_
  refine lv_topi (fun v1250 e1250 => ?_)
  refine lv_aload_n hx hb dL_law_1251 rfl (lv_at hl 0 rfl) ?_
  refine lv_iload hx hb dL_law_1252 (lv_at hl 4 rfl) ?_
  refine lv_iconst (v := 3) hx hb dL_law_1254 (by decide) ?_
  refine lv_iadd hx hb dL_law_1255 ?_
  refine lv_topi (fun v1255 e1255 => ?_)
  have i1255 : v1255.toInt = i.toInt + 3 := zadd e1255 rfl (by decide) (by omega) (by omega)
  refine va_sld hx hb hX hbl hbA hS (vp_in_iff.mpr ⟨by omega, by omega⟩) dL_law_1256 ?_
  refine lv_topi (fun v1256 e1256 => ?_)
  refine lv_aload_n hx hb dL_law_1257 rfl (lv_at hl 0 rfl) ?_
  refine lv_iload hx hb dL_law_1258 (lv_at hl 4 rfl) ?_
  refine lv_iconst (v := 4) hx hb dL_law_1260 (by decide) ?_
  refine lv_iadd hx hb dL_law_1261 ?_
  refine lv_topi (fun v1261 e1261 => ?_)
  have i1261 : v1261.toInt = i.toInt + 4 := zadd e1261 rfl (by decide) (by omega) (by omega)
  refine va_sld hx hb hX hbl hbA hS (vp_in_iff.mpr ⟨by omega, by omega⟩) dL_law_1262 ?_
  refine lv_topi (fun v1262 e1262 => ?_)
  refine lv_aload_n hx hb dL_law_1263 rfl (lv_at hl 0 rfl) ?_
  refine lv_iload hx hb dL_law_1264 (lv_at hl 4 rfl) ?_
  refine lv_iconst (v := 5) hx hb dL_law_1266 (by decide) ?_
  refine lv_iadd hx hb dL_law_1267 ?_
  refine lv_topi (fun v1267 e1267 => ?_)
  have i1267 : v1267.toInt = i.toInt + 5 := zadd e1267 rfl (by decide) (by omega) (by omega)
  refine va_sld hx hb hX hbl hbA hS (vp_in_iff.mpr ⟨by omega, by omega⟩) dL_law_1268 ?_
  refine lv_topi (fun v1268 e1268 => ?_)
  refine lv_aload_n hx hb dL_law_1269 rfl (lv_at hl 0 rfl) ?_
  refine lv_iload hx hb dL_law_1270 (lv_at hl 4 rfl) ?_
  refine lv_bipush (v := 6) hx hb dL_law_1272 (by decide) ?_
  refine lv_iadd hx hb dL_law_1274 ?_
  refine lv_topi (fun v1274 e1274 => ?_)
  have i1274 : v1274.toInt = i.toInt + 6 := zadd e1274 rfl (by decide) (by omega) (by omega)
  refine va_sld hx hb hX hbl hbA hS (vp_in_iff.mpr ⟨by omega, by omega⟩) dL_law_1275 ?_
  refine lv_topi (fun v1275 e1275 => ?_)
  refine k_X10_game (rest := []) hcf hK3 hV hC hO hP hD hS (fun _ h => h) hl.1 (Nat.le_of_ble_eq_true rfl) (by show k + 0 ≤ 601024; omega) (by show n + 0 ≤ 7293034; omega) dL_law_1276 (fun v1276 C H locs hv1 hC hP hD hS => ?_)
  refine lv_pop hx hb dL_law_1279 rfl ?_
  refine lv_aload_n hx hb dL_law_1280 rfl (lv_at hl 2 rfl) ?_
  refine lv_aload_n hx hb dL_law_1281 rfl (lv_at hl 0 rfl) ?_
  refine lv_iload hx hb dL_law_1282 (lv_at hl 4 rfl) ?_
  refine lv_iconst (v := 1) hx hb dL_law_1284 (by decide) ?_
  refine lv_iadd hx hb dL_law_1285 ?_
  refine lv_topi (fun v1285 e1285 => ?_)
  have i1285 : v1285.toInt = i.toInt + 1 := zadd e1285 rfl (by decide) (by omega) (by omega)
  refine va_sld hx hb hX hbl hbA hS (vp_in_iff.mpr ⟨by omega, by omega⟩) dL_law_1286 ?_
  refine lv_topi (fun v1286 e1286 => ?_)
  refine lv_aload_n hx hb dL_law_1287 rfl (lv_at hl 0 rfl) ?_
  refine lv_iload hx hb dL_law_1288 (lv_at hl 4 rfl) ?_
  refine lv_iconst (v := 2) hx hb dL_law_1290 (by decide) ?_
  refine lv_iadd hx hb dL_law_1291 ?_
  refine lv_topi (fun v1291 e1291 => ?_)
  have i1291 : v1291.toInt = i.toInt + 2 := zadd e1291 rfl (by decide) (by omega) (by omega)
  refine va_sld hx hb hX hbl hbA hS (vp_in_iff.mpr ⟨by omega, by omega⟩) dL_law_1292 ?_
  refine lv_topi (fun v1292 e1292 => ?_)
  refine lv_aload_n hx hb dL_law_1293 rfl (lv_at hl 0 rfl) ?_
  refine lv_iload hx hb dL_law_1294 (lv_at hl 4 rfl) ?_
  refine lv_iconst (v := 3) hx hb dL_law_1296 (by decide) ?_
  refine lv_iadd hx hb dL_law_1297 ?_
  refine lv_topi (fun v1297 e1297 => ?_)
  have i1297 : v1297.toInt = i.toInt + 3 := zadd e1297 rfl (by decide) (by omega) (by omega)
  refine va_sld hx hb hX hbl hbA hS (vp_in_iff.mpr ⟨by omega, by omega⟩) dL_law_1298 ?_
  refine lv_topi (fun v1298 e1298 => ?_)
  refine lv_aload_n hx hb dL_law_1299 rfl (lv_at hl 0 rfl) ?_
  refine lv_iload hx hb dL_law_1300 (lv_at hl 4 rfl) ?_
  refine lv_iconst (v := 4) hx hb dL_law_1302 (by decide) ?_
  refine lv_iadd hx hb dL_law_1303 ?_
  refine lv_topi (fun v1303 e1303 => ?_)
  have i1303 : v1303.toInt = i.toInt + 4 := zadd e1303 rfl (by decide) (by omega) (by omega)
  refine va_sld hx hb hX hbl hbA hS (vp_in_iff.mpr ⟨by omega, by omega⟩) dL_law_1304 ?_
  refine lv_topi (fun v1304 e1304 => ?_)
  refine lv_aload_n hx hb dL_law_1305 rfl (lv_at hl 0 rfl) ?_
  refine lv_iload hx hb dL_law_1306 (lv_at hl 4 rfl) ?_
  refine lv_iconst (v := 5) hx hb dL_law_1308 (by decide) ?_
  refine lv_iadd hx hb dL_law_1309 ?_
  refine lv_topi (fun v1309 e1309 => ?_)
  have i1309 : v1309.toInt = i.toInt + 5 := zadd e1309 rfl (by decide) (by omega) (by omega)
  refine va_sld hx hb hX hbl hbA hS (vp_in_iff.mpr ⟨by omega, by omega⟩) dL_law_1310 ?_
  refine lv_topi (fun v1310 e1310 => ?_)
  refine lv_aload_n hx hb dL_law_1311 rfl (lv_at hl 0 rfl) ?_
  refine lv_iload hx hb dL_law_1312 (lv_at hl 4 rfl) ?_
  refine lv_bipush (v := 6) hx hb dL_law_1314 (by decide) ?_
  refine lv_iadd hx hb dL_law_1316 ?_
  refine lv_topi (fun v1316 e1316 => ?_)
  have i1316 : v1316.toInt = i.toInt + 6 := zadd e1316 rfl (by decide) (by omega) (by omega)
  refine va_sld hx hb hX hbl hbA hS (vp_in_iff.mpr ⟨by omega, by omega⟩) dL_law_1317 ?_
  refine lv_topi (fun v1317 e1317 => ?_)
  have hP := zRotP hP
  have hD := zRotD hD
  refine k_X11_game (rest := []) hcf hK3 hV hR hO hP hD hS (fun _ h => h) hl.1 (Nat.le_of_ble_eq_true rfl) (by show k + 0 ≤ 601024; omega) (by show n + 0 ≤ 7293034; omega) dL_law_1318 (fun v1318 Rr H locs hv2 hR hP hD hS => ?_)
  have hP := zRotP' hP
  have hD := zRotD' hD
  have ev0 : v1286 = v1244 := by rw [e1286, e1244, e1285, e1243]
  rw [ev0] at hv2
  have ev1 : v1292 = v1250 := by rw [e1292, e1250, e1291, e1249]
  rw [ev1] at hv2
  have ev2 : v1298 = v1256 := by rw [e1298, e1256, e1297, e1255]
  rw [ev2] at hv2
  have ev3 : v1304 = v1262 := by rw [e1304, e1262, e1303, e1261]
  rw [ev3] at hv2
  have ev4 : v1310 = v1268 := by rw [e1310, e1268, e1309, e1267]
  rw [ev4] at hv2
  have ev5 : v1317 = v1275 := by rw [e1317, e1275, e1316, e1274]
  rw [ev5] at hv2
  have er : v1276.toInt = v1318.toInt := congrArg Int32.toInt (hv1.trans hv2.symm)
  refine lv_pop hx hb dL_law_1321 rfl ?_
  refine lv_goto (tgt := 1797) hx hb dL_law_1322 (by decide) ?_
  refine W.widen (k := k + 3) (n := n + 300) (by omega) (by omega) ?_
  exact J _ C Rr fo H locs ls hO hC hR hP hD hS (lv_sub hl [0, 1, 2, 3, 4] rfl)
set_option maxHeartbeats 4000000 in
set_option maxRecDepth 100000 in
theorem law_case_32 {p : Program} {l : Launch} {e : Env} {s : State} {m : MethodId} {below : List Frame} {meth : Method} {c : Code} {b L : Nat} {xs : Nat → Int32} {dC : Nat → ClassId} {dI : Nat → Nat → Nat} {cI cJ cQ : ClassId} {x0 m0 o0 : Nat} (hl0 : l.stackTraces = false) (C0 : lw_At p s m meth c b L xs) (hK3 : va_K (dC, dI) vwCl [(cI, .int), (cJ, .long), (cQ, .object "NinePortraits$Law")] s) (hV : zV (fun q : Nat => s.heap.size ≤ q) s) (hG : zG (fun q : Nat => s.heap.size ≤ q) s) (hCa : zCa s) (hL : L ≤ 3584) {sg : zSy} {C Rr : va_W} {fo : Nat → Int64} {i : Int32} {H : Heap} {locs : List Loc} {ls : Array Slot} {k n : Nat} (hO : zOkG sg) (hC : zCi cI cJ cQ x0 sg C) (hR : zRi cI m0 sg Rr) (hP : va_P (dC, dI) vwCl (C ++ ((o0, .inl (cJ, 1, .inr (.inl fo))) :: Rr)) H) (hD : va_D (fun q : Nat => s.heap.size ≤ q) (C ++ ((o0, .inl (cJ, 1, .inr (.inl fo))) :: Rr))) (hS : va_S (fun q : Nat => s.heap.size ≤ q) s.heap H locs) (hl : lv_has ls 7 [(0, .ref b), (1, .ref x0), (2, .ref m0), (3, .ref o0), (4, .int i)]) (hi0 : 0 ≤ i.toInt) (hiL : i.toInt + 7 ≤ (L : Int)) (hk : k + 3 ≤ 601024) (hn : n + 300 ≤ 7293034) (J : ∀ (sg : zSy) (C Rr : va_W) (fo : Nat → Int64) (H : Heap) (locs : List Loc) (ls : Array Slot), zOkG sg → zCi cI cJ cQ x0 sg C → zRi cI m0 sg Rr → va_P (dC, dI) vwCl (C ++ ((o0, .inl (cJ, 1, .inr (.inl fo))) :: Rr)) H → va_D (fun q : Nat => s.heap.size ≤ q) (C ++ ((o0, .inl (cJ, 1, .inr (.inl fo))) :: Rr)) → va_S (fun q : Nat => s.heap.size ≤ q) s.heap H locs → lv_has ls 7 [(0, .ref b), (1, .ref x0), (2, .ref m0), (3, .ref o0), (4, .int i)] → W p l e room_1 s m #[Value.ref b] below meth c H locs (k + 3) (n + 300) (lw_Z below #[Value.ref b] s) (F0 m 1797 ls [])) : W p l e room_1 s m #[Value.ref b] below meth c H locs k n (lw_Z below #[Value.ref b] s) (F0 m 1325 ls []) := by
  obtain ⟨hx, hb, hr, hml, hown, hts0, hX, hbl, hlocks, hgv⟩ := id C0
  have hts : ∀ w ∈ wA, w.before #[Value.ref b] s = true := fun w h => hts0 w (List.mem_filter.mp h).1
  have hown : s.vm.findClass RL = some m.cls := hown
  have hcf : CallFix p m c code 7 s #[Value.ref b] wA RL := ⟨hx, hb, hml, hown, hts⟩
  have hbA : ¬ (fun q : Nat => s.heap.size ≤ q) b := Nat.not_le.mpr hbl
  refine lv_aload_n hx hb dL_law_1325 rfl (lv_at hl 1 rfl) ?_
  refine lv_aload_n hx hb dL_law_1326 rfl (lv_at hl 0 rfl) ?_
  refine lv_iload hx hb dL_law_1327 (lv_at hl 4 rfl) ?_
  refine lv_iconst (v := 1) hx hb dL_law_1329 (by decide) ?_
  refine lv_iadd hx hb dL_law_1330 ?_
  refine lv_topi (fun v1330 e1330 => ?_)
  have i1330 : v1330.toInt = i.toInt + 1 := zadd e1330 rfl (by decide) (by omega) (by omega)
  refine va_sld hx hb hX hbl hbA hS (vp_in_iff.mpr ⟨by omega, by omega⟩) dL_law_1331 ?_
  refine lv_topi (fun v1331 e1331 => ?_)
  refine lv_aload_n hx hb dL_law_1332 rfl (lv_at hl 0 rfl) ?_
  refine lv_iload hx hb dL_law_1333 (lv_at hl 4 rfl) ?_
  refine lv_iconst (v := 2) hx hb dL_law_1335 (by decide) ?_
  refine lv_iadd hx hb dL_law_1336 ?_
  refine lv_topi (fun v1336 e1336 => ?_)
  have i1336 : v1336.toInt = i.toInt + 2 := zadd e1336 rfl (by decide) (by omega) (by omega)
  refine va_sld hx hb hX hbl hbA hS (vp_in_iff.mpr ⟨by omega, by omega⟩) dL_law_1337 ?_
  refine lv_topi (fun v1337 e1337 => ?_)
  refine lv_aload_n hx hb dL_law_1338 rfl (lv_at hl 0 rfl) ?_
  refine lv_iload hx hb dL_law_1339 (lv_at hl 4 rfl) ?_
  refine lv_iconst (v := 3) hx hb dL_law_1341 (by decide) ?_
  refine lv_iadd hx hb dL_law_1342 ?_
  refine lv_topi (fun v1342 e1342 => ?_)
  have i1342 : v1342.toInt = i.toInt + 3 := zadd e1342 rfl (by decide) (by omega) (by omega)
  refine va_sld hx hb hX hbl hbA hS (vp_in_iff.mpr ⟨by omega, by omega⟩) dL_law_1343 ?_
  refine lv_topi (fun v1343 e1343 => ?_)
  refine lv_aload_n hx hb dL_law_1344 rfl (lv_at hl 0 rfl) ?_
  refine lv_iload hx hb dL_law_1345 (lv_at hl 4 rfl) ?_
  refine lv_iconst (v := 4) hx hb dL_law_1347 (by decide) ?_
  refine lv_iadd hx hb dL_law_1348 ?_
  refine lv_topi (fun v1348 e1348 => ?_)
  have i1348 : v1348.toInt = i.toInt + 4 := zadd e1348 rfl (by decide) (by omega) (by omega)
  refine va_sld hx hb hX hbl hbA hS (vp_in_iff.mpr ⟨by omega, by omega⟩) dL_law_1349 ?_
  refine lv_topi (fun v1349 e1349 => ?_)
  refine k_X10_rests (rest := []) hcf hK3 hV hC hO hP hD hS (fun _ h => h) hl.1 (Nat.le_of_ble_eq_true rfl) (by show k + 0 ≤ 601024; omega) (by show n + 0 ≤ 7293034; omega) dL_law_1350 (fun v1350 C H locs hv1 hC hP hD hS => ?_)
  refine lv_pop hx hb dL_law_1353 rfl ?_
  refine lv_aload_n hx hb dL_law_1354 rfl (lv_at hl 2 rfl) ?_
  refine lv_aload_n hx hb dL_law_1355 rfl (lv_at hl 0 rfl) ?_
  refine lv_iload hx hb dL_law_1356 (lv_at hl 4 rfl) ?_
  refine lv_iconst (v := 1) hx hb dL_law_1358 (by decide) ?_
  refine lv_iadd hx hb dL_law_1359 ?_
  refine lv_topi (fun v1359 e1359 => ?_)
  have i1359 : v1359.toInt = i.toInt + 1 := zadd e1359 rfl (by decide) (by omega) (by omega)
  refine va_sld hx hb hX hbl hbA hS (vp_in_iff.mpr ⟨by omega, by omega⟩) dL_law_1360 ?_
  refine lv_topi (fun v1360 e1360 => ?_)
  refine lv_aload_n hx hb dL_law_1361 rfl (lv_at hl 0 rfl) ?_
  refine lv_iload hx hb dL_law_1362 (lv_at hl 4 rfl) ?_
  refine lv_iconst (v := 2) hx hb dL_law_1364 (by decide) ?_
  refine lv_iadd hx hb dL_law_1365 ?_
  refine lv_topi (fun v1365 e1365 => ?_)
  have i1365 : v1365.toInt = i.toInt + 2 := zadd e1365 rfl (by decide) (by omega) (by omega)
  refine va_sld hx hb hX hbl hbA hS (vp_in_iff.mpr ⟨by omega, by omega⟩) dL_law_1366 ?_
  refine lv_topi (fun v1366 e1366 => ?_)
  refine lv_aload_n hx hb dL_law_1367 rfl (lv_at hl 0 rfl) ?_
  refine lv_iload hx hb dL_law_1368 (lv_at hl 4 rfl) ?_
  refine lv_iconst (v := 3) hx hb dL_law_1370 (by decide) ?_
  refine lv_iadd hx hb dL_law_1371 ?_
  refine lv_topi (fun v1371 e1371 => ?_)
  have i1371 : v1371.toInt = i.toInt + 3 := zadd e1371 rfl (by decide) (by omega) (by omega)
  refine va_sld hx hb hX hbl hbA hS (vp_in_iff.mpr ⟨by omega, by omega⟩) dL_law_1372 ?_
  refine lv_topi (fun v1372 e1372 => ?_)
  refine lv_aload_n hx hb dL_law_1373 rfl (lv_at hl 0 rfl) ?_
  refine lv_iload hx hb dL_law_1374 (lv_at hl 4 rfl) ?_
  refine lv_iconst (v := 4) hx hb dL_law_1376 (by decide) ?_
  refine lv_iadd hx hb dL_law_1377 ?_
  refine lv_topi (fun v1377 e1377 => ?_)
  have i1377 : v1377.toInt = i.toInt + 4 := zadd e1377 rfl (by decide) (by omega) (by omega)
  refine va_sld hx hb hX hbl hbA hS (vp_in_iff.mpr ⟨by omega, by omega⟩) dL_law_1378 ?_
  refine lv_topi (fun v1378 e1378 => ?_)
  have hP := zRotP hP
  have hD := zRotD hD
  refine k_X11_rests (rest := []) hcf hK3 hV hR hO hP hD hS (fun _ h => h) hl.1 (Nat.le_of_ble_eq_true rfl) (by show k + 0 ≤ 601024; omega) (by show n + 0 ≤ 7293034; omega) dL_law_1379 (fun v1379 Rr H locs hv2 hR hP hD hS => ?_)
  have hP := zRotP' hP
  have hD := zRotD' hD
  have ev0 : v1360 = v1331 := by rw [e1360, e1331, e1359, e1330]
  rw [ev0] at hv2
  have ev1 : v1366 = v1337 := by rw [e1366, e1337, e1365, e1336]
  rw [ev1] at hv2
  have ev2 : v1372 = v1343 := by rw [e1372, e1343, e1371, e1342]
  rw [ev2] at hv2
  have ev3 : v1378 = v1349 := by rw [e1378, e1349, e1377, e1348]
  rw [ev3] at hv2
  have er : v1350.toInt = v1379.toInt := hv1.trans hv2.symm
  refine lv_pop hx hb dL_law_1382 rfl ?_
  refine lv_goto (tgt := 1797) hx hb dL_law_1383 (by decide) ?_
  refine W.widen (k := k + 3) (n := n + 300) (by omega) (by omega) ?_
  exact J _ C Rr fo H locs ls hO hC hR hP hD hS (lv_sub hl [0, 1, 2, 3, 4] rfl)
set_option maxHeartbeats 4000000 in
set_option maxRecDepth 100000 in
theorem law_case_33 {p : Program} {l : Launch} {e : Env} {s : State} {m : MethodId} {below : List Frame} {meth : Method} {c : Code} {b L : Nat} {xs : Nat → Int32} {dC : Nat → ClassId} {dI : Nat → Nat → Nat} {cI cJ cQ : ClassId} {x0 m0 o0 : Nat} (hl0 : l.stackTraces = false) (C0 : lw_At p s m meth c b L xs) (hK3 : va_K (dC, dI) vwCl [(cI, .int), (cJ, .long), (cQ, .object "NinePortraits$Law")] s) (hV : zV (fun q : Nat => s.heap.size ≤ q) s) (hG : zG (fun q : Nat => s.heap.size ≤ q) s) (hCa : zCa s) (hL : L ≤ 3584) {sg : zSy} {C Rr : va_W} {fo : Nat → Int64} {i : Int32} {H : Heap} {locs : List Loc} {ls : Array Slot} {k n : Nat} (hO : zOkG sg) (hC : zCi cI cJ cQ x0 sg C) (hR : zRi cI m0 sg Rr) (hP : va_P (dC, dI) vwCl (C ++ ((o0, .inl (cJ, 1, .inr (.inl fo))) :: Rr)) H) (hD : va_D (fun q : Nat => s.heap.size ≤ q) (C ++ ((o0, .inl (cJ, 1, .inr (.inl fo))) :: Rr))) (hS : va_S (fun q : Nat => s.heap.size ≤ q) s.heap H locs) (hl : lv_has ls 7 [(0, .ref b), (1, .ref x0), (2, .ref m0), (3, .ref o0), (4, .int i)]) (hi0 : 0 ≤ i.toInt) (hiL : i.toInt + 7 ≤ (L : Int)) (hk : k + 3 ≤ 601024) (hn : n + 300 ≤ 7293034) (J : ∀ (sg : zSy) (C Rr : va_W) (fo : Nat → Int64) (H : Heap) (locs : List Loc) (ls : Array Slot), zOkG sg → zCi cI cJ cQ x0 sg C → zRi cI m0 sg Rr → va_P (dC, dI) vwCl (C ++ ((o0, .inl (cJ, 1, .inr (.inl fo))) :: Rr)) H → va_D (fun q : Nat => s.heap.size ≤ q) (C ++ ((o0, .inl (cJ, 1, .inr (.inl fo))) :: Rr)) → va_S (fun q : Nat => s.heap.size ≤ q) s.heap H locs → lv_has ls 7 [(0, .ref b), (1, .ref x0), (2, .ref m0), (3, .ref o0), (4, .int i)] → W p l e room_1 s m #[Value.ref b] below meth c H locs (k + 3) (n + 300) (lw_Z below #[Value.ref b] s) (F0 m 1797 ls [])) : W p l e room_1 s m #[Value.ref b] below meth c H locs k n (lw_Z below #[Value.ref b] s) (F0 m 1386 ls []) := by
  obtain ⟨hx, hb, hr, hml, hown, hts0, hX, hbl, hlocks, hgv⟩ := id C0
  have hts : ∀ w ∈ wA, w.before #[Value.ref b] s = true := fun w h => hts0 w (List.mem_filter.mp h).1
  have hown : s.vm.findClass RL = some m.cls := hown
  have hcf : CallFix p m c code 7 s #[Value.ref b] wA RL := ⟨hx, hb, hml, hown, hts⟩
  have hbA : ¬ (fun q : Nat => s.heap.size ≤ q) b := Nat.not_le.mpr hbl
  refine lv_aload_n hx hb dL_law_1386 rfl (lv_at hl 1 rfl) ?_
  refine lv_aload_n hx hb dL_law_1387 rfl (lv_at hl 0 rfl) ?_
  refine lv_iload hx hb dL_law_1388 (lv_at hl 4 rfl) ?_
  refine lv_iconst (v := 1) hx hb dL_law_1390 (by decide) ?_
  refine lv_iadd hx hb dL_law_1391 ?_
  refine lv_topi (fun v1391 e1391 => ?_)
  have i1391 : v1391.toInt = i.toInt + 1 := zadd e1391 rfl (by decide) (by omega) (by omega)
  refine va_sld hx hb hX hbl hbA hS (vp_in_iff.mpr ⟨by omega, by omega⟩) dL_law_1392 ?_
  refine lv_topi (fun v1392 e1392 => ?_)
  refine lv_aload_n hx hb dL_law_1393 rfl (lv_at hl 0 rfl) ?_
  refine lv_iload hx hb dL_law_1394 (lv_at hl 4 rfl) ?_
  refine lv_iconst (v := 2) hx hb dL_law_1396 (by decide) ?_
  refine lv_iadd hx hb dL_law_1397 ?_
  refine lv_topi (fun v1397 e1397 => ?_)
  have i1397 : v1397.toInt = i.toInt + 2 := zadd e1397 rfl (by decide) (by omega) (by omega)
  refine va_sld hx hb hX hbl hbA hS (vp_in_iff.mpr ⟨by omega, by omega⟩) dL_law_1398 ?_
  refine lv_topi (fun v1398 e1398 => ?_)
  refine k_X10_truth (rest := []) hcf hK3 hV hC hO hP hD hS (fun _ h => h) hl.1 (Nat.le_of_ble_eq_true rfl) (by show k + 0 ≤ 601024; omega) (by show n + 0 ≤ 7293034; omega) dL_law_1399 (fun v1399 C H locs hv1 hC hP hD hS => ?_)
  refine lv_pop hx hb dL_law_1402 rfl ?_
  refine lv_aload_n hx hb dL_law_1403 rfl (lv_at hl 2 rfl) ?_
  refine lv_aload_n hx hb dL_law_1404 rfl (lv_at hl 0 rfl) ?_
  refine lv_iload hx hb dL_law_1405 (lv_at hl 4 rfl) ?_
  refine lv_iconst (v := 1) hx hb dL_law_1407 (by decide) ?_
  refine lv_iadd hx hb dL_law_1408 ?_
  refine lv_topi (fun v1408 e1408 => ?_)
  have i1408 : v1408.toInt = i.toInt + 1 := zadd e1408 rfl (by decide) (by omega) (by omega)
  refine va_sld hx hb hX hbl hbA hS (vp_in_iff.mpr ⟨by omega, by omega⟩) dL_law_1409 ?_
  refine lv_topi (fun v1409 e1409 => ?_)
  refine lv_aload_n hx hb dL_law_1410 rfl (lv_at hl 0 rfl) ?_
  refine lv_iload hx hb dL_law_1411 (lv_at hl 4 rfl) ?_
  refine lv_iconst (v := 2) hx hb dL_law_1413 (by decide) ?_
  refine lv_iadd hx hb dL_law_1414 ?_
  refine lv_topi (fun v1414 e1414 => ?_)
  have i1414 : v1414.toInt = i.toInt + 2 := zadd e1414 rfl (by decide) (by omega) (by omega)
  refine va_sld hx hb hX hbl hbA hS (vp_in_iff.mpr ⟨by omega, by omega⟩) dL_law_1415 ?_
  refine lv_topi (fun v1415 e1415 => ?_)
  have hP := zRotP hP
  have hD := zRotD hD
  refine k_X11_truth (rest := []) hcf hK3 hV hR hO hP hD hS (fun _ h => h) hl.1 (Nat.le_of_ble_eq_true rfl) (by show k + 0 ≤ 601024; omega) (by show n + 0 ≤ 7293034; omega) dL_law_1416 (fun v1416 Rr H locs hv2 hR hP hD hS => ?_)
  have hP := zRotP' hP
  have hD := zRotD' hD
  have ev0 : v1409 = v1392 := by rw [e1409, e1392, e1408, e1391]
  rw [ev0] at hv2
  have ev1 : v1415 = v1398 := by rw [e1415, e1398, e1414, e1397]
  rw [ev1] at hv2
  have er : v1399.toInt = v1416.toInt := congrArg Int32.toInt (hv1.trans hv2.symm)
  refine lv_pop hx hb dL_law_1419 rfl ?_
  refine lv_goto (tgt := 1797) hx hb dL_law_1420 (by decide) ?_
  refine W.widen (k := k + 3) (n := n + 300) (by omega) (by omega) ?_
  exact J _ C Rr fo H locs ls hO hC hR hP hD hS (lv_sub hl [0, 1, 2, 3, 4] rfl)
set_option maxHeartbeats 4000000 in
set_option maxRecDepth 100000 in
theorem law_case_34 {p : Program} {l : Launch} {e : Env} {s : State} {m : MethodId} {below : List Frame} {meth : Method} {c : Code} {b L : Nat} {xs : Nat → Int32} {dC : Nat → ClassId} {dI : Nat → Nat → Nat} {cI cJ cQ : ClassId} {x0 m0 o0 : Nat} (hl0 : l.stackTraces = false) (C0 : lw_At p s m meth c b L xs) (hK3 : va_K (dC, dI) vwCl [(cI, .int), (cJ, .long), (cQ, .object "NinePortraits$Law")] s) (hV : zV (fun q : Nat => s.heap.size ≤ q) s) (hG : zG (fun q : Nat => s.heap.size ≤ q) s) (hCa : zCa s) (hL : L ≤ 3584) {sg : zSy} {C Rr : va_W} {fo : Nat → Int64} {i : Int32} {H : Heap} {locs : List Loc} {ls : Array Slot} {k n : Nat} (hO : zOkG sg) (hC : zCi cI cJ cQ x0 sg C) (hR : zRi cI m0 sg Rr) (hP : va_P (dC, dI) vwCl (C ++ ((o0, .inl (cJ, 1, .inr (.inl fo))) :: Rr)) H) (hD : va_D (fun q : Nat => s.heap.size ≤ q) (C ++ ((o0, .inl (cJ, 1, .inr (.inl fo))) :: Rr))) (hS : va_S (fun q : Nat => s.heap.size ≤ q) s.heap H locs) (hl : lv_has ls 7 [(0, .ref b), (1, .ref x0), (2, .ref m0), (3, .ref o0), (4, .int i)]) (hi0 : 0 ≤ i.toInt) (hiL : i.toInt + 7 ≤ (L : Int)) (hk : k + 3 ≤ 601024) (hn : n + 300 ≤ 7293034) (J : ∀ (sg : zSy) (C Rr : va_W) (fo : Nat → Int64) (H : Heap) (locs : List Loc) (ls : Array Slot), zOkG sg → zCi cI cJ cQ x0 sg C → zRi cI m0 sg Rr → va_P (dC, dI) vwCl (C ++ ((o0, .inl (cJ, 1, .inr (.inl fo))) :: Rr)) H → va_D (fun q : Nat => s.heap.size ≤ q) (C ++ ((o0, .inl (cJ, 1, .inr (.inl fo))) :: Rr)) → va_S (fun q : Nat => s.heap.size ≤ q) s.heap H locs → lv_has ls 7 [(0, .ref b), (1, .ref x0), (2, .ref m0), (3, .ref o0), (4, .int i)] → W p l e room_1 s m #[Value.ref b] below meth c H locs (k + 3) (n + 300) (lw_Z below #[Value.ref b] s) (F0 m 1797 ls [])) : W p l e room_1 s m #[Value.ref b] below meth c H locs k n (lw_Z below #[Value.ref b] s) (F0 m 1423 ls []) := by
  obtain ⟨hx, hb, hr, hml, hown, hts0, hX, hbl, hlocks, hgv⟩ := id C0
  have hts : ∀ w ∈ wA, w.before #[Value.ref b] s = true := fun w h => hts0 w (List.mem_filter.mp h).1
  have hown : s.vm.findClass RL = some m.cls := hown
  have hcf : CallFix p m c code 7 s #[Value.ref b] wA RL := ⟨hx, hb, hml, hown, hts⟩
  have hbA : ¬ (fun q : Nat => s.heap.size ≤ q) b := Nat.not_le.mpr hbl
  refine lv_aload_n hx hb dL_law_1423 rfl (lv_at hl 1 rfl) ?_
  refine lv_aload_n hx hb dL_law_1424 rfl (lv_at hl 0 rfl) ?_
  refine lv_iload hx hb dL_law_1425 (lv_at hl 4 rfl) ?_
  refine lv_iconst (v := 1) hx hb dL_law_1427 (by decide) ?_
  refine lv_iadd hx hb dL_law_1428 ?_
  refine lv_topi (fun v1428 e1428 => ?_)
  have i1428 : v1428.toInt = i.toInt + 1 := zadd e1428 rfl (by decide) (by omega) (by omega)
  refine va_sld hx hb hX hbl hbA hS (vp_in_iff.mpr ⟨by omega, by omega⟩) dL_law_1429 ?_
  refine lv_topi (fun v1429 e1429 => ?_)
  refine lv_aload_n hx hb dL_law_1430 rfl (lv_at hl 0 rfl) ?_
  refine lv_iload hx hb dL_law_1431 (lv_at hl 4 rfl) ?_
  refine lv_iconst (v := 2) hx hb dL_law_1433 (by decide) ?_
  refine lv_iadd hx hb dL_law_1434 ?_
  refine lv_topi (fun v1434 e1434 => ?_)
  have i1434 : v1434.toInt = i.toInt + 2 := zadd e1434 rfl (by decide) (by omega) (by omega)
  refine va_sld hx hb hX hbl hbA hS (vp_in_iff.mpr ⟨by omega, by omega⟩) dL_law_1435 ?_
  refine lv_topi (fun v1435 e1435 => ?_)
  refine k_X10_cheapest (rest := []) hcf hK3 hV hC hO hP hD hS (fun _ h => h) hl.1 (Nat.le_of_ble_eq_true rfl) (by show k + 0 ≤ 601024; omega) (by show n + 0 ≤ 7293034; omega) dL_law_1436 (fun v1436 C H locs hv1 hC hP hD hS => ?_)
  refine lv_pop hx hb dL_law_1439 rfl ?_
  refine lv_aload_n hx hb dL_law_1440 rfl (lv_at hl 2 rfl) ?_
  refine lv_aload_n hx hb dL_law_1441 rfl (lv_at hl 0 rfl) ?_
  refine lv_iload hx hb dL_law_1442 (lv_at hl 4 rfl) ?_
  refine lv_iconst (v := 1) hx hb dL_law_1444 (by decide) ?_
  refine lv_iadd hx hb dL_law_1445 ?_
  refine lv_topi (fun v1445 e1445 => ?_)
  have i1445 : v1445.toInt = i.toInt + 1 := zadd e1445 rfl (by decide) (by omega) (by omega)
  refine va_sld hx hb hX hbl hbA hS (vp_in_iff.mpr ⟨by omega, by omega⟩) dL_law_1446 ?_
  refine lv_topi (fun v1446 e1446 => ?_)
  refine lv_aload_n hx hb dL_law_1447 rfl (lv_at hl 0 rfl) ?_
  refine lv_iload hx hb dL_law_1448 (lv_at hl 4 rfl) ?_
  refine lv_iconst (v := 2) hx hb dL_law_1450 (by decide) ?_
  refine lv_iadd hx hb dL_law_1451 ?_
  refine lv_topi (fun v1451 e1451 => ?_)
  have i1451 : v1451.toInt = i.toInt + 2 := zadd e1451 rfl (by decide) (by omega) (by omega)
  refine va_sld hx hb hX hbl hbA hS (vp_in_iff.mpr ⟨by omega, by omega⟩) dL_law_1452 ?_
  refine lv_topi (fun v1452 e1452 => ?_)
  have hP := zRotP hP
  have hD := zRotD hD
  refine k_X11_cheapest (rest := []) hcf hK3 hV hR hO hP hD hS (fun _ h => h) hl.1 (Nat.le_of_ble_eq_true rfl) (by show k + 0 ≤ 601024; omega) (by show n + 0 ≤ 7293034; omega) dL_law_1453 (fun v1453 Rr H locs hv2 hR hP hD hS => ?_)
  have hP := zRotP' hP
  have hD := zRotD' hD
  have ev0 : v1446 = v1429 := by rw [e1446, e1429, e1445, e1428]
  rw [ev0] at hv2
  have ev1 : v1452 = v1435 := by rw [e1452, e1435, e1451, e1434]
  rw [ev1] at hv2
  have er : v1436.toInt = v1453.toInt := hv1.trans hv2.symm
  refine lv_pop hx hb dL_law_1456 rfl ?_
  refine lv_goto (tgt := 1797) hx hb dL_law_1457 (by decide) ?_
  refine W.widen (k := k + 3) (n := n + 300) (by omega) (by omega) ?_
  exact J _ C Rr fo H locs ls hO hC hR hP hD hS (lv_sub hl [0, 1, 2, 3, 4] rfl)
set_option maxHeartbeats 4000000 in
set_option maxRecDepth 100000 in
theorem law_case_35 {p : Program} {l : Launch} {e : Env} {s : State} {m : MethodId} {below : List Frame} {meth : Method} {c : Code} {b L : Nat} {xs : Nat → Int32} {dC : Nat → ClassId} {dI : Nat → Nat → Nat} {cI cJ cQ : ClassId} {x0 m0 o0 : Nat} (hl0 : l.stackTraces = false) (C0 : lw_At p s m meth c b L xs) (hK3 : va_K (dC, dI) vwCl [(cI, .int), (cJ, .long), (cQ, .object "NinePortraits$Law")] s) (hV : zV (fun q : Nat => s.heap.size ≤ q) s) (hG : zG (fun q : Nat => s.heap.size ≤ q) s) (hCa : zCa s) (hL : L ≤ 3584) {sg : zSy} {C Rr : va_W} {fo : Nat → Int64} {i : Int32} {H : Heap} {locs : List Loc} {ls : Array Slot} {k n : Nat} (hO : zOkG sg) (hC : zCi cI cJ cQ x0 sg C) (hR : zRi cI m0 sg Rr) (hP : va_P (dC, dI) vwCl (C ++ ((o0, .inl (cJ, 1, .inr (.inl fo))) :: Rr)) H) (hD : va_D (fun q : Nat => s.heap.size ≤ q) (C ++ ((o0, .inl (cJ, 1, .inr (.inl fo))) :: Rr))) (hS : va_S (fun q : Nat => s.heap.size ≤ q) s.heap H locs) (hl : lv_has ls 7 [(0, .ref b), (1, .ref x0), (2, .ref m0), (3, .ref o0), (4, .int i)]) (hi0 : 0 ≤ i.toInt) (hiL : i.toInt + 7 ≤ (L : Int)) (hk : k + 3 ≤ 601024) (hn : n + 300 ≤ 7293034) (J : ∀ (sg : zSy) (C Rr : va_W) (fo : Nat → Int64) (H : Heap) (locs : List Loc) (ls : Array Slot), zOkG sg → zCi cI cJ cQ x0 sg C → zRi cI m0 sg Rr → va_P (dC, dI) vwCl (C ++ ((o0, .inl (cJ, 1, .inr (.inl fo))) :: Rr)) H → va_D (fun q : Nat => s.heap.size ≤ q) (C ++ ((o0, .inl (cJ, 1, .inr (.inl fo))) :: Rr)) → va_S (fun q : Nat => s.heap.size ≤ q) s.heap H locs → lv_has ls 7 [(0, .ref b), (1, .ref x0), (2, .ref m0), (3, .ref o0), (4, .int i)] → W p l e room_1 s m #[Value.ref b] below meth c H locs (k + 3) (n + 300) (lw_Z below #[Value.ref b] s) (F0 m 1797 ls [])) : W p l e room_1 s m #[Value.ref b] below meth c H locs k n (lw_Z below #[Value.ref b] s) (F0 m 1460 ls []) := by
  obtain ⟨hx, hb, hr, hml, hown, hts0, hX, hbl, hlocks, hgv⟩ := id C0
  have hts : ∀ w ∈ wA, w.before #[Value.ref b] s = true := fun w h => hts0 w (List.mem_filter.mp h).1
  have hown : s.vm.findClass RL = some m.cls := hown
  have hcf : CallFix p m c code 7 s #[Value.ref b] wA RL := ⟨hx, hb, hml, hown, hts⟩
  have hbA : ¬ (fun q : Nat => s.heap.size ≤ q) b := Nat.not_le.mpr hbl
  refine lv_aload_n hx hb dL_law_1460 rfl (lv_at hl 1 rfl) ?_
  refine lv_aload_n hx hb dL_law_1461 rfl (lv_at hl 0 rfl) ?_
  refine lv_iload hx hb dL_law_1462 (lv_at hl 4 rfl) ?_
  refine lv_iconst (v := 1) hx hb dL_law_1464 (by decide) ?_
  refine lv_iadd hx hb dL_law_1465 ?_
  refine lv_topi (fun v1465 e1465 => ?_)
  have i1465 : v1465.toInt = i.toInt + 1 := zadd e1465 rfl (by decide) (by omega) (by omega)
  refine va_sld hx hb hX hbl hbA hS (vp_in_iff.mpr ⟨by omega, by omega⟩) dL_law_1466 ?_
  refine lv_topi (fun v1466 e1466 => ?_)
  refine k_X10_looks (rest := []) hcf hK3 hV hC hO hP hD hS (fun _ h => h) hl.1 (Nat.le_of_ble_eq_true rfl) (by show k + 0 ≤ 601024; omega) (by show n + 0 ≤ 7293034; omega) dL_law_1467 (fun v1467 C H locs hv1 hC hP hD hS => ?_)
  refine lv_pop hx hb dL_law_1470 rfl ?_
  refine lv_aload_n hx hb dL_law_1471 rfl (lv_at hl 2 rfl) ?_
  refine lv_aload_n hx hb dL_law_1472 rfl (lv_at hl 0 rfl) ?_
  refine lv_iload hx hb dL_law_1473 (lv_at hl 4 rfl) ?_
  refine lv_iconst (v := 1) hx hb dL_law_1475 (by decide) ?_
  refine lv_iadd hx hb dL_law_1476 ?_
  refine lv_topi (fun v1476 e1476 => ?_)
  have i1476 : v1476.toInt = i.toInt + 1 := zadd e1476 rfl (by decide) (by omega) (by omega)
  refine va_sld hx hb hX hbl hbA hS (vp_in_iff.mpr ⟨by omega, by omega⟩) dL_law_1477 ?_
  refine lv_topi (fun v1477 e1477 => ?_)
  have hP := zRotP hP
  have hD := zRotD hD
  refine k_X11_looks (rest := []) hcf hK3 hV hR hO hP hD hS (fun _ h => h) hl.1 (Nat.le_of_ble_eq_true rfl) (by show k + 0 ≤ 601024; omega) (by show n + 0 ≤ 7293034; omega) dL_law_1478 (fun v1478 Rr H locs hv2 hR hP hD hS => ?_)
  have hP := zRotP' hP
  have hD := zRotD' hD
  have ev0 : v1477 = v1466 := by rw [e1477, e1466, e1476, e1465]
  rw [ev0] at hv2
  have er : v1467.toInt = v1478.toInt := congrArg Int32.toInt (hv1.trans hv2.symm)
  refine lv_pop hx hb dL_law_1481 rfl ?_
  refine lv_goto (tgt := 1797) hx hb dL_law_1482 (by decide) ?_
  refine W.widen (k := k + 3) (n := n + 300) (by omega) (by omega) ?_
  exact J _ C Rr fo H locs ls hO hC hR hP hD hS (lv_sub hl [0, 1, 2, 3, 4] rfl)
set_option maxHeartbeats 4000000 in
set_option maxRecDepth 100000 in
theorem law_case_36 {p : Program} {l : Launch} {e : Env} {s : State} {m : MethodId} {below : List Frame} {meth : Method} {c : Code} {b L : Nat} {xs : Nat → Int32} {dC : Nat → ClassId} {dI : Nat → Nat → Nat} {cI cJ cQ : ClassId} {x0 m0 o0 : Nat} (hl0 : l.stackTraces = false) (C0 : lw_At p s m meth c b L xs) (hK3 : va_K (dC, dI) vwCl [(cI, .int), (cJ, .long), (cQ, .object "NinePortraits$Law")] s) (hV : zV (fun q : Nat => s.heap.size ≤ q) s) (hG : zG (fun q : Nat => s.heap.size ≤ q) s) (hCa : zCa s) (hL : L ≤ 3584) {sg : zSy} {C Rr : va_W} {fo : Nat → Int64} {i : Int32} {H : Heap} {locs : List Loc} {ls : Array Slot} {k n : Nat} (hO : zOkG sg) (hC : zCi cI cJ cQ x0 sg C) (hR : zRi cI m0 sg Rr) (hP : va_P (dC, dI) vwCl (C ++ ((o0, .inl (cJ, 1, .inr (.inl fo))) :: Rr)) H) (hD : va_D (fun q : Nat => s.heap.size ≤ q) (C ++ ((o0, .inl (cJ, 1, .inr (.inl fo))) :: Rr))) (hS : va_S (fun q : Nat => s.heap.size ≤ q) s.heap H locs) (hl : lv_has ls 7 [(0, .ref b), (1, .ref x0), (2, .ref m0), (3, .ref o0), (4, .int i)]) (hi0 : 0 ≤ i.toInt) (hiL : i.toInt + 7 ≤ (L : Int)) (hk : k + 3 ≤ 601024) (hn : n + 300 ≤ 7293034) (J : ∀ (sg : zSy) (C Rr : va_W) (fo : Nat → Int64) (H : Heap) (locs : List Loc) (ls : Array Slot), zOkG sg → zCi cI cJ cQ x0 sg C → zRi cI m0 sg Rr → va_P (dC, dI) vwCl (C ++ ((o0, .inl (cJ, 1, .inr (.inl fo))) :: Rr)) H → va_D (fun q : Nat => s.heap.size ≤ q) (C ++ ((o0, .inl (cJ, 1, .inr (.inl fo))) :: Rr)) → va_S (fun q : Nat => s.heap.size ≤ q) s.heap H locs → lv_has ls 7 [(0, .ref b), (1, .ref x0), (2, .ref m0), (3, .ref o0), (4, .int i)] → W p l e room_1 s m #[Value.ref b] below meth c H locs (k + 3) (n + 300) (lw_Z below #[Value.ref b] s) (F0 m 1797 ls [])) : W p l e room_1 s m #[Value.ref b] below meth c H locs k n (lw_Z below #[Value.ref b] s) (F0 m 1485 ls []) := by
  obtain ⟨hx, hb, hr, hml, hown, hts0, hX, hbl, hlocks, hgv⟩ := id C0
  have hts : ∀ w ∈ wA, w.before #[Value.ref b] s = true := fun w h => hts0 w (List.mem_filter.mp h).1
  have hown : s.vm.findClass RL = some m.cls := hown
  have hcf : CallFix p m c code 7 s #[Value.ref b] wA RL := ⟨hx, hb, hml, hown, hts⟩
  have hbA : ¬ (fun q : Nat => s.heap.size ≤ q) b := Nat.not_le.mpr hbl
  refine lv_aload_n hx hb dL_law_1485 rfl (lv_at hl 1 rfl) ?_
  refine lv_aload_n hx hb dL_law_1486 rfl (lv_at hl 0 rfl) ?_
  refine lv_iload hx hb dL_law_1487 (lv_at hl 4 rfl) ?_
  refine lv_iconst (v := 1) hx hb dL_law_1489 (by decide) ?_
  refine lv_iadd hx hb dL_law_1490 ?_
  refine lv_topi (fun v1490 e1490 => ?_)
  have i1490 : v1490.toInt = i.toInt + 1 := zadd e1490 rfl (by decide) (by omega) (by omega)
  refine va_sld hx hb hX hbl hbA hS (vp_in_iff.mpr ⟨by omega, by omega⟩) dL_law_1491 ?_
  refine lv_topi (fun v1491 e1491 => ?_)
  refine lv_aload_n hx hb dL_law_1492 rfl (lv_at hl 0 rfl) ?_
  refine lv_iload hx hb dL_law_1493 (lv_at hl 4 rfl) ?_
  refine lv_iconst (v := 2) hx hb dL_law_1495 (by decide) ?_
  refine lv_iadd hx hb dL_law_1496 ?_
  refine lv_topi (fun v1496 e1496 => ?_)
  have i1496 : v1496.toInt = i.toInt + 2 := zadd e1496 rfl (by decide) (by omega) (by omega)
  refine va_sld hx hb hX hbl hbA hS (vp_in_iff.mpr ⟨by omega, by omega⟩) dL_law_1497 ?_
  refine lv_topi (fun v1497 e1497 => ?_)
  refine k_X10_whose (rest := []) hcf hK3 hV hC hO hP hD hS (fun _ h => h) hl.1 (Nat.le_of_ble_eq_true rfl) (by show k + 0 ≤ 601024; omega) (by show n + 0 ≤ 7293034; omega) dL_law_1498 (fun v1498 C H locs hv1 hC hP hD hS => ?_)
  refine lv_pop hx hb dL_law_1501 rfl ?_
  refine lv_aload_n hx hb dL_law_1502 rfl (lv_at hl 2 rfl) ?_
  refine lv_aload_n hx hb dL_law_1503 rfl (lv_at hl 0 rfl) ?_
  refine lv_iload hx hb dL_law_1504 (lv_at hl 4 rfl) ?_
  refine lv_iconst (v := 1) hx hb dL_law_1506 (by decide) ?_
  refine lv_iadd hx hb dL_law_1507 ?_
  refine lv_topi (fun v1507 e1507 => ?_)
  have i1507 : v1507.toInt = i.toInt + 1 := zadd e1507 rfl (by decide) (by omega) (by omega)
  refine va_sld hx hb hX hbl hbA hS (vp_in_iff.mpr ⟨by omega, by omega⟩) dL_law_1508 ?_
  refine lv_topi (fun v1508 e1508 => ?_)
  refine lv_aload_n hx hb dL_law_1509 rfl (lv_at hl 0 rfl) ?_
  refine lv_iload hx hb dL_law_1510 (lv_at hl 4 rfl) ?_
  refine lv_iconst (v := 2) hx hb dL_law_1512 (by decide) ?_
  refine lv_iadd hx hb dL_law_1513 ?_
  refine lv_topi (fun v1513 e1513 => ?_)
  have i1513 : v1513.toInt = i.toInt + 2 := zadd e1513 rfl (by decide) (by omega) (by omega)
  refine va_sld hx hb hX hbl hbA hS (vp_in_iff.mpr ⟨by omega, by omega⟩) dL_law_1514 ?_
  refine lv_topi (fun v1514 e1514 => ?_)
  have hP := zRotP hP
  have hD := zRotD hD
  refine k_X11_whose (rest := []) hcf hK3 hV hR hO hP hD hS (fun _ h => h) hl.1 (Nat.le_of_ble_eq_true rfl) (by show k + 0 ≤ 601024; omega) (by show n + 0 ≤ 7293034; omega) dL_law_1515 (fun v1515 Rr H locs hv2 hR hP hD hS => ?_)
  have hP := zRotP' hP
  have hD := zRotD' hD
  have ev0 : v1508 = v1491 := by rw [e1508, e1491, e1507, e1490]
  rw [ev0] at hv2
  have ev1 : v1514 = v1497 := by rw [e1514, e1497, e1513, e1496]
  rw [ev1] at hv2
  have er : v1498.toInt = v1515.toInt := congrArg Int32.toInt (hv1.trans hv2.symm)
  refine lv_pop hx hb dL_law_1518 rfl ?_
  refine lv_goto (tgt := 1797) hx hb dL_law_1519 (by decide) ?_
  refine W.widen (k := k + 3) (n := n + 300) (by omega) (by omega) ?_
  exact J _ C Rr fo H locs ls hO hC hR hP hD hS (lv_sub hl [0, 1, 2, 3, 4] rfl)
set_option maxHeartbeats 4000000 in
set_option maxRecDepth 100000 in
theorem law_case_37 {p : Program} {l : Launch} {e : Env} {s : State} {m : MethodId} {below : List Frame} {meth : Method} {c : Code} {b L : Nat} {xs : Nat → Int32} {dC : Nat → ClassId} {dI : Nat → Nat → Nat} {cI cJ cQ : ClassId} {x0 m0 o0 : Nat} (hl0 : l.stackTraces = false) (C0 : lw_At p s m meth c b L xs) (hK3 : va_K (dC, dI) vwCl [(cI, .int), (cJ, .long), (cQ, .object "NinePortraits$Law")] s) (hV : zV (fun q : Nat => s.heap.size ≤ q) s) (hG : zG (fun q : Nat => s.heap.size ≤ q) s) (hCa : zCa s) (hL : L ≤ 3584) {sg : zSy} {C Rr : va_W} {fo : Nat → Int64} {i : Int32} {H : Heap} {locs : List Loc} {ls : Array Slot} {k n : Nat} (hO : zOkG sg) (hC : zCi cI cJ cQ x0 sg C) (hR : zRi cI m0 sg Rr) (hP : va_P (dC, dI) vwCl (C ++ ((o0, .inl (cJ, 1, .inr (.inl fo))) :: Rr)) H) (hD : va_D (fun q : Nat => s.heap.size ≤ q) (C ++ ((o0, .inl (cJ, 1, .inr (.inl fo))) :: Rr))) (hS : va_S (fun q : Nat => s.heap.size ≤ q) s.heap H locs) (hl : lv_has ls 7 [(0, .ref b), (1, .ref x0), (2, .ref m0), (3, .ref o0), (4, .int i)]) (hi0 : 0 ≤ i.toInt) (hiL : i.toInt + 7 ≤ (L : Int)) (hk : k + 3 ≤ 601024) (hn : n + 300 ≤ 7293034) (J : ∀ (sg : zSy) (C Rr : va_W) (fo : Nat → Int64) (H : Heap) (locs : List Loc) (ls : Array Slot), zOkG sg → zCi cI cJ cQ x0 sg C → zRi cI m0 sg Rr → va_P (dC, dI) vwCl (C ++ ((o0, .inl (cJ, 1, .inr (.inl fo))) :: Rr)) H → va_D (fun q : Nat => s.heap.size ≤ q) (C ++ ((o0, .inl (cJ, 1, .inr (.inl fo))) :: Rr)) → va_S (fun q : Nat => s.heap.size ≤ q) s.heap H locs → lv_has ls 7 [(0, .ref b), (1, .ref x0), (2, .ref m0), (3, .ref o0), (4, .int i)] → W p l e room_1 s m #[Value.ref b] below meth c H locs (k + 3) (n + 300) (lw_Z below #[Value.ref b] s) (F0 m 1797 ls [])) : W p l e room_1 s m #[Value.ref b] below meth c H locs k n (lw_Z below #[Value.ref b] s) (F0 m 1522 ls []) := by
  obtain ⟨hx, hb, hr, hml, hown, hts0, hX, hbl, hlocks, hgv⟩ := id C0
  have hts : ∀ w ∈ wA, w.before #[Value.ref b] s = true := fun w h => hts0 w (List.mem_filter.mp h).1
  have hown : s.vm.findClass RL = some m.cls := hown
  have hcf : CallFix p m c code 7 s #[Value.ref b] wA RL := ⟨hx, hb, hml, hown, hts⟩
  have hbA : ¬ (fun q : Nat => s.heap.size ≤ q) b := Nat.not_le.mpr hbl
  refine lv_aload_n hx hb dL_law_1522 rfl (lv_at hl 1 rfl) ?_
  refine lv_aload_n hx hb dL_law_1523 rfl (lv_at hl 0 rfl) ?_
  refine lv_iload hx hb dL_law_1524 (lv_at hl 4 rfl) ?_
  refine lv_iconst (v := 1) hx hb dL_law_1526 (by decide) ?_
  refine lv_iadd hx hb dL_law_1527 ?_
  refine lv_topi (fun v1527 e1527 => ?_)
  have i1527 : v1527.toInt = i.toInt + 1 := zadd e1527 rfl (by decide) (by omega) (by omega)
  refine va_sld hx hb hX hbl hbA hS (vp_in_iff.mpr ⟨by omega, by omega⟩) dL_law_1528 ?_
  refine lv_topi (fun v1528 e1528 => ?_)
  refine lv_aload_n hx hb dL_law_1529 rfl (lv_at hl 0 rfl) ?_
  refine lv_iload hx hb dL_law_1530 (lv_at hl 4 rfl) ?_
  refine lv_iconst (v := 2) hx hb dL_law_1532 (by decide) ?_
  refine lv_iadd hx hb dL_law_1533 ?_
  refine lv_topi (fun v1533 e1533 => ?_)
  have i1533 : v1533.toInt = i.toInt + 2 := zadd e1533 rfl (by decide) (by omega) (by omega)
  refine va_sld hx hb hX hbl hbA hS (vp_in_iff.mpr ⟨by omega, by omega⟩) dL_law_1534 ?_
  refine lv_topi (fun v1534 e1534 => ?_)
  refine lv_aload_n hx hb dL_law_1535 rfl (lv_at hl 0 rfl) ?_
  refine lv_iload hx hb dL_law_1536 (lv_at hl 4 rfl) ?_
  refine lv_iconst (v := 3) hx hb dL_law_1538 (by decide) ?_
  refine lv_iadd hx hb dL_law_1539 ?_
  refine lv_topi (fun v1539 e1539 => ?_)
  have i1539 : v1539.toInt = i.toInt + 3 := zadd e1539 rfl (by decide) (by omega) (by omega)
  refine va_sld hx hb hX hbl hbA hS (vp_in_iff.mpr ⟨by omega, by omega⟩) dL_law_1540 ?_
  refine lv_topi (fun v1540 e1540 => ?_)
  refine k_X10_heads (rest := []) hcf hK3 hV hC hO hP hD hS (fun _ h => h) hl.1 (Nat.le_of_ble_eq_true rfl) (by show k + 0 ≤ 601024; omega) (by show n + 0 ≤ 7293034; omega) dL_law_1541 (fun v1541 C H locs hv1 hC hP hD hS => ?_)
  refine lv_pop hx hb dL_law_1544 rfl ?_
  refine lv_aload_n hx hb dL_law_1545 rfl (lv_at hl 2 rfl) ?_
  refine lv_aload_n hx hb dL_law_1546 rfl (lv_at hl 0 rfl) ?_
  refine lv_iload hx hb dL_law_1547 (lv_at hl 4 rfl) ?_
  refine lv_iconst (v := 1) hx hb dL_law_1549 (by decide) ?_
  refine lv_iadd hx hb dL_law_1550 ?_
  refine lv_topi (fun v1550 e1550 => ?_)
  have i1550 : v1550.toInt = i.toInt + 1 := zadd e1550 rfl (by decide) (by omega) (by omega)
  refine va_sld hx hb hX hbl hbA hS (vp_in_iff.mpr ⟨by omega, by omega⟩) dL_law_1551 ?_
  refine lv_topi (fun v1551 e1551 => ?_)
  refine lv_aload_n hx hb dL_law_1552 rfl (lv_at hl 0 rfl) ?_
  refine lv_iload hx hb dL_law_1553 (lv_at hl 4 rfl) ?_
  refine lv_iconst (v := 2) hx hb dL_law_1555 (by decide) ?_
  refine lv_iadd hx hb dL_law_1556 ?_
  refine lv_topi (fun v1556 e1556 => ?_)
  have i1556 : v1556.toInt = i.toInt + 2 := zadd e1556 rfl (by decide) (by omega) (by omega)
  refine va_sld hx hb hX hbl hbA hS (vp_in_iff.mpr ⟨by omega, by omega⟩) dL_law_1557 ?_
  refine lv_topi (fun v1557 e1557 => ?_)
  refine lv_aload_n hx hb dL_law_1558 rfl (lv_at hl 0 rfl) ?_
  refine lv_iload hx hb dL_law_1559 (lv_at hl 4 rfl) ?_
  refine lv_iconst (v := 3) hx hb dL_law_1561 (by decide) ?_
  refine lv_iadd hx hb dL_law_1562 ?_
  refine lv_topi (fun v1562 e1562 => ?_)
  have i1562 : v1562.toInt = i.toInt + 3 := zadd e1562 rfl (by decide) (by omega) (by omega)
  refine va_sld hx hb hX hbl hbA hS (vp_in_iff.mpr ⟨by omega, by omega⟩) dL_law_1563 ?_
  refine lv_topi (fun v1563 e1563 => ?_)
  have hP := zRotP hP
  have hD := zRotD hD
  refine k_X11_heads (rest := []) hcf hK3 hV hR hO hP hD hS (fun _ h => h) hl.1 (Nat.le_of_ble_eq_true rfl) (by show k + 0 ≤ 601024; omega) (by show n + 0 ≤ 7293034; omega) dL_law_1564 (fun v1564 Rr H locs hv2 hR hP hD hS => ?_)
  have hP := zRotP' hP
  have hD := zRotD' hD
  have ev0 : v1551 = v1528 := by rw [e1551, e1528, e1550, e1527]
  rw [ev0] at hv2
  have ev1 : v1557 = v1534 := by rw [e1557, e1534, e1556, e1533]
  rw [ev1] at hv2
  have ev2 : v1563 = v1540 := by rw [e1563, e1540, e1562, e1539]
  rw [ev2] at hv2
  have er : v1541.toInt = v1564.toInt := congrArg Int32.toInt (hv1.trans hv2.symm)
  refine lv_pop hx hb dL_law_1567 rfl ?_
  refine lv_goto (tgt := 1797) hx hb dL_law_1568 (by decide) ?_
  refine W.widen (k := k + 3) (n := n + 300) (by omega) (by omega) ?_
  exact J _ C Rr fo H locs ls hO hC hR hP hD hS (lv_sub hl [0, 1, 2, 3, 4] rfl)
set_option maxHeartbeats 4000000 in
set_option maxRecDepth 100000 in
theorem law_case_38 {p : Program} {l : Launch} {e : Env} {s : State} {m : MethodId} {below : List Frame} {meth : Method} {c : Code} {b L : Nat} {xs : Nat → Int32} {dC : Nat → ClassId} {dI : Nat → Nat → Nat} {cI cJ cQ : ClassId} {x0 m0 o0 : Nat} (hl0 : l.stackTraces = false) (C0 : lw_At p s m meth c b L xs) (hK3 : va_K (dC, dI) vwCl [(cI, .int), (cJ, .long), (cQ, .object "NinePortraits$Law")] s) (hV : zV (fun q : Nat => s.heap.size ≤ q) s) (hG : zG (fun q : Nat => s.heap.size ≤ q) s) (hCa : zCa s) (hL : L ≤ 3584) {sg : zSy} {C Rr : va_W} {fo : Nat → Int64} {i : Int32} {H : Heap} {locs : List Loc} {ls : Array Slot} {k n : Nat} (hO : zOkG sg) (hC : zCi cI cJ cQ x0 sg C) (hR : zRi cI m0 sg Rr) (hP : va_P (dC, dI) vwCl (C ++ ((o0, .inl (cJ, 1, .inr (.inl fo))) :: Rr)) H) (hD : va_D (fun q : Nat => s.heap.size ≤ q) (C ++ ((o0, .inl (cJ, 1, .inr (.inl fo))) :: Rr))) (hS : va_S (fun q : Nat => s.heap.size ≤ q) s.heap H locs) (hl : lv_has ls 7 [(0, .ref b), (1, .ref x0), (2, .ref m0), (3, .ref o0), (4, .int i)]) (hi0 : 0 ≤ i.toInt) (hiL : i.toInt + 7 ≤ (L : Int)) (hk : k + 3 ≤ 601024) (hn : n + 300 ≤ 7293034) (J : ∀ (sg : zSy) (C Rr : va_W) (fo : Nat → Int64) (H : Heap) (locs : List Loc) (ls : Array Slot), zOkG sg → zCi cI cJ cQ x0 sg C → zRi cI m0 sg Rr → va_P (dC, dI) vwCl (C ++ ((o0, .inl (cJ, 1, .inr (.inl fo))) :: Rr)) H → va_D (fun q : Nat => s.heap.size ≤ q) (C ++ ((o0, .inl (cJ, 1, .inr (.inl fo))) :: Rr)) → va_S (fun q : Nat => s.heap.size ≤ q) s.heap H locs → lv_has ls 7 [(0, .ref b), (1, .ref x0), (2, .ref m0), (3, .ref o0), (4, .int i)] → W p l e room_1 s m #[Value.ref b] below meth c H locs (k + 3) (n + 300) (lw_Z below #[Value.ref b] s) (F0 m 1797 ls [])) : W p l e room_1 s m #[Value.ref b] below meth c H locs k n (lw_Z below #[Value.ref b] s) (F0 m 1571 ls []) := by
  obtain ⟨hx, hb, hr, hml, hown, hts0, hX, hbl, hlocks, hgv⟩ := id C0
  have hts : ∀ w ∈ wA, w.before #[Value.ref b] s = true := fun w h => hts0 w (List.mem_filter.mp h).1
  have hown : s.vm.findClass RL = some m.cls := hown
  have hcf : CallFix p m c code 7 s #[Value.ref b] wA RL := ⟨hx, hb, hml, hown, hts⟩
  have hbA : ¬ (fun q : Nat => s.heap.size ≤ q) b := Nat.not_le.mpr hbl
  refine lv_aload_n hx hb dL_law_1571 rfl (lv_at hl 1 rfl) ?_
  refine lv_aload_n hx hb dL_law_1572 rfl (lv_at hl 0 rfl) ?_
  refine lv_iload hx hb dL_law_1573 (lv_at hl 4 rfl) ?_
  refine lv_iconst (v := 1) hx hb dL_law_1575 (by decide) ?_
  refine lv_iadd hx hb dL_law_1576 ?_
  refine lv_topi (fun v1576 e1576 => ?_)
  have i1576 : v1576.toInt = i.toInt + 1 := zadd e1576 rfl (by decide) (by omega) (by omega)
  refine va_sld hx hb hX hbl hbA hS (vp_in_iff.mpr ⟨by omega, by omega⟩) dL_law_1577 ?_
  refine lv_topi (fun v1577 e1577 => ?_)
  refine k_X10_matched (rest := []) hcf hK3 hV hC hO hP hD hS (fun _ h => h) hl.1 (Nat.le_of_ble_eq_true rfl) (by show k + 0 ≤ 601024; omega) (by show n + 0 ≤ 7293034; omega) dL_law_1578 (fun v1578 C H locs hv1 hC hP hD hS => ?_)
  refine lv_pop hx hb dL_law_1581 rfl ?_
  refine lv_aload_n hx hb dL_law_1582 rfl (lv_at hl 2 rfl) ?_
  refine lv_aload_n hx hb dL_law_1583 rfl (lv_at hl 0 rfl) ?_
  refine lv_iload hx hb dL_law_1584 (lv_at hl 4 rfl) ?_
  refine lv_iconst (v := 1) hx hb dL_law_1586 (by decide) ?_
  refine lv_iadd hx hb dL_law_1587 ?_
  refine lv_topi (fun v1587 e1587 => ?_)
  have i1587 : v1587.toInt = i.toInt + 1 := zadd e1587 rfl (by decide) (by omega) (by omega)
  refine va_sld hx hb hX hbl hbA hS (vp_in_iff.mpr ⟨by omega, by omega⟩) dL_law_1588 ?_
  refine lv_topi (fun v1588 e1588 => ?_)
  have hP := zRotP hP
  have hD := zRotD hD
  refine k_X11_matched (rest := []) hcf hK3 hV hR hO hP hD hS (fun _ h => h) hl.1 (Nat.le_of_ble_eq_true rfl) (by show k + 0 ≤ 601024; omega) (by show n + 0 ≤ 7293034; omega) dL_law_1589 (fun v1589 Rr H locs hv2 hR hP hD hS => ?_)
  have hP := zRotP' hP
  have hD := zRotD' hD
  have ev0 : v1588 = v1577 := by rw [e1588, e1577, e1587, e1576]
  rw [ev0] at hv2
  have er : v1578.toInt = v1589.toInt := hv1.trans hv2.symm
  refine lv_pop hx hb dL_law_1592 rfl ?_
  refine lv_goto (tgt := 1797) hx hb dL_law_1593 (by decide) ?_
  refine W.widen (k := k + 3) (n := n + 300) (by omega) (by omega) ?_
  exact J _ C Rr fo H locs ls hO hC hR hP hD hS (lv_sub hl [0, 1, 2, 3, 4] rfl)
set_option maxHeartbeats 4000000 in
set_option maxRecDepth 100000 in
theorem law_case_39 {p : Program} {l : Launch} {e : Env} {s : State} {m : MethodId} {below : List Frame} {meth : Method} {c : Code} {b L : Nat} {xs : Nat → Int32} {dC : Nat → ClassId} {dI : Nat → Nat → Nat} {cI cJ cQ : ClassId} {x0 m0 o0 : Nat} (hl0 : l.stackTraces = false) (C0 : lw_At p s m meth c b L xs) (hK3 : va_K (dC, dI) vwCl [(cI, .int), (cJ, .long), (cQ, .object "NinePortraits$Law")] s) (hV : zV (fun q : Nat => s.heap.size ≤ q) s) (hG : zG (fun q : Nat => s.heap.size ≤ q) s) (hCa : zCa s) (hL : L ≤ 3584) {sg : zSy} {C Rr : va_W} {fo : Nat → Int64} {i : Int32} {H : Heap} {locs : List Loc} {ls : Array Slot} {k n : Nat} (hO : zOkG sg) (hC : zCi cI cJ cQ x0 sg C) (hR : zRi cI m0 sg Rr) (hP : va_P (dC, dI) vwCl (C ++ ((o0, .inl (cJ, 1, .inr (.inl fo))) :: Rr)) H) (hD : va_D (fun q : Nat => s.heap.size ≤ q) (C ++ ((o0, .inl (cJ, 1, .inr (.inl fo))) :: Rr))) (hS : va_S (fun q : Nat => s.heap.size ≤ q) s.heap H locs) (hl : lv_has ls 7 [(0, .ref b), (1, .ref x0), (2, .ref m0), (3, .ref o0), (4, .int i)]) (hi0 : 0 ≤ i.toInt) (hiL : i.toInt + 7 ≤ (L : Int)) (hk : k + 3 ≤ 601024) (hn : n + 300 ≤ 7293034) (J : ∀ (sg : zSy) (C Rr : va_W) (fo : Nat → Int64) (H : Heap) (locs : List Loc) (ls : Array Slot), zOkG sg → zCi cI cJ cQ x0 sg C → zRi cI m0 sg Rr → va_P (dC, dI) vwCl (C ++ ((o0, .inl (cJ, 1, .inr (.inl fo))) :: Rr)) H → va_D (fun q : Nat => s.heap.size ≤ q) (C ++ ((o0, .inl (cJ, 1, .inr (.inl fo))) :: Rr)) → va_S (fun q : Nat => s.heap.size ≤ q) s.heap H locs → lv_has ls 7 [(0, .ref b), (1, .ref x0), (2, .ref m0), (3, .ref o0), (4, .int i)] → W p l e room_1 s m #[Value.ref b] below meth c H locs (k + 3) (n + 300) (lw_Z below #[Value.ref b] s) (F0 m 1797 ls [])) : W p l e room_1 s m #[Value.ref b] below meth c H locs k n (lw_Z below #[Value.ref b] s) (F0 m 1596 ls []) := by
  obtain ⟨hx, hb, hr, hml, hown, hts0, hX, hbl, hlocks, hgv⟩ := id C0
  have hts : ∀ w ∈ wA, w.before #[Value.ref b] s = true := fun w h => hts0 w (List.mem_filter.mp h).1
  have hown : s.vm.findClass RL = some m.cls := hown
  have hcf : CallFix p m c code 7 s #[Value.ref b] wA RL := ⟨hx, hb, hml, hown, hts⟩
  have hbA : ¬ (fun q : Nat => s.heap.size ≤ q) b := Nat.not_le.mpr hbl
  refine lv_aload_n hx hb dL_law_1596 rfl (lv_at hl 1 rfl) ?_
  refine lv_aload_n hx hb dL_law_1597 rfl (lv_at hl 0 rfl) ?_
  refine lv_iload hx hb dL_law_1598 (lv_at hl 4 rfl) ?_
  refine lv_iconst (v := 1) hx hb dL_law_1600 (by decide) ?_
  refine lv_iadd hx hb dL_law_1601 ?_
  refine lv_topi (fun v1601 e1601 => ?_)
  have i1601 : v1601.toInt = i.toInt + 1 := zadd e1601 rfl (by decide) (by omega) (by omega)
  refine va_sld hx hb hX hbl hbA hS (vp_in_iff.mpr ⟨by omega, by omega⟩) dL_law_1602 ?_
  refine lv_topi (fun v1602 e1602 => ?_)
  refine k_X10_most (rest := []) hcf hK3 hV hC hO hP hD hS (fun _ h => h) hl.1 (Nat.le_of_ble_eq_true rfl) (by show k + 0 ≤ 601024; omega) (by show n + 0 ≤ 7293034; omega) dL_law_1603 (fun v1603 C H locs hv1 hC hP hD hS => ?_)
  refine lv_pop hx hb dL_law_1606 rfl ?_
  refine lv_aload_n hx hb dL_law_1607 rfl (lv_at hl 2 rfl) ?_
  refine lv_aload_n hx hb dL_law_1608 rfl (lv_at hl 0 rfl) ?_
  refine lv_iload hx hb dL_law_1609 (lv_at hl 4 rfl) ?_
  refine lv_iconst (v := 1) hx hb dL_law_1611 (by decide) ?_
  refine lv_iadd hx hb dL_law_1612 ?_
  refine lv_topi (fun v1612 e1612 => ?_)
  have i1612 : v1612.toInt = i.toInt + 1 := zadd e1612 rfl (by decide) (by omega) (by omega)
  refine va_sld hx hb hX hbl hbA hS (vp_in_iff.mpr ⟨by omega, by omega⟩) dL_law_1613 ?_
  refine lv_topi (fun v1613 e1613 => ?_)
  have hP := zRotP hP
  have hD := zRotD hD
  refine k_X11_most (rest := []) hcf hK3 hV hR hO hP hD hS (fun _ h => h) hl.1 (Nat.le_of_ble_eq_true rfl) (by show k + 0 ≤ 601024; omega) (by show n + 0 ≤ 7293034; omega) dL_law_1614 (fun v1614 Rr H locs hv2 hR hP hD hS => ?_)
  have hP := zRotP' hP
  have hD := zRotD' hD
  have ev0 : v1613 = v1602 := by rw [e1613, e1602, e1612, e1601]
  rw [ev0] at hv2
  have er : v1603.toInt = v1614.toInt := congrArg Int32.toInt (hv1.trans hv2.symm)
  refine lv_pop hx hb dL_law_1617 rfl ?_
  refine lv_goto (tgt := 1797) hx hb dL_law_1618 (by decide) ?_
  refine W.widen (k := k + 3) (n := n + 300) (by omega) (by omega) ?_
  exact J _ C Rr fo H locs ls hO hC hR hP hD hS (lv_sub hl [0, 1, 2, 3, 4] rfl)
set_option maxHeartbeats 4000000 in
set_option maxRecDepth 100000 in
theorem law_case_40 {p : Program} {l : Launch} {e : Env} {s : State} {m : MethodId} {below : List Frame} {meth : Method} {c : Code} {b L : Nat} {xs : Nat → Int32} {dC : Nat → ClassId} {dI : Nat → Nat → Nat} {cI cJ cQ : ClassId} {x0 m0 o0 : Nat} (hl0 : l.stackTraces = false) (C0 : lw_At p s m meth c b L xs) (hK3 : va_K (dC, dI) vwCl [(cI, .int), (cJ, .long), (cQ, .object "NinePortraits$Law")] s) (hV : zV (fun q : Nat => s.heap.size ≤ q) s) (hG : zG (fun q : Nat => s.heap.size ≤ q) s) (hCa : zCa s) (hL : L ≤ 3584) {sg : zSy} {C Rr : va_W} {fo : Nat → Int64} {i : Int32} {H : Heap} {locs : List Loc} {ls : Array Slot} {k n : Nat} (hO : zOkG sg) (hC : zCi cI cJ cQ x0 sg C) (hR : zRi cI m0 sg Rr) (hP : va_P (dC, dI) vwCl (C ++ ((o0, .inl (cJ, 1, .inr (.inl fo))) :: Rr)) H) (hD : va_D (fun q : Nat => s.heap.size ≤ q) (C ++ ((o0, .inl (cJ, 1, .inr (.inl fo))) :: Rr))) (hS : va_S (fun q : Nat => s.heap.size ≤ q) s.heap H locs) (hl : lv_has ls 7 [(0, .ref b), (1, .ref x0), (2, .ref m0), (3, .ref o0), (4, .int i)]) (hi0 : 0 ≤ i.toInt) (hiL : i.toInt + 7 ≤ (L : Int)) (hk : k + 3 ≤ 601024) (hn : n + 300 ≤ 7293034) (J : ∀ (sg : zSy) (C Rr : va_W) (fo : Nat → Int64) (H : Heap) (locs : List Loc) (ls : Array Slot), zOkG sg → zCi cI cJ cQ x0 sg C → zRi cI m0 sg Rr → va_P (dC, dI) vwCl (C ++ ((o0, .inl (cJ, 1, .inr (.inl fo))) :: Rr)) H → va_D (fun q : Nat => s.heap.size ≤ q) (C ++ ((o0, .inl (cJ, 1, .inr (.inl fo))) :: Rr)) → va_S (fun q : Nat => s.heap.size ≤ q) s.heap H locs → lv_has ls 7 [(0, .ref b), (1, .ref x0), (2, .ref m0), (3, .ref o0), (4, .int i)] → W p l e room_1 s m #[Value.ref b] below meth c H locs (k + 3) (n + 300) (lw_Z below #[Value.ref b] s) (F0 m 1797 ls [])) : W p l e room_1 s m #[Value.ref b] below meth c H locs k n (lw_Z below #[Value.ref b] s) (F0 m 1621 ls []) := by
  obtain ⟨hx, hb, hr, hml, hown, hts0, hX, hbl, hlocks, hgv⟩ := id C0
  have hts : ∀ w ∈ wA, w.before #[Value.ref b] s = true := fun w h => hts0 w (List.mem_filter.mp h).1
  have hown : s.vm.findClass RL = some m.cls := hown
  have hcf : CallFix p m c code 7 s #[Value.ref b] wA RL := ⟨hx, hb, hml, hown, hts⟩
  have hbA : ¬ (fun q : Nat => s.heap.size ≤ q) b := Nat.not_le.mpr hbl
  refine lv_aload_n hx hb dL_law_1621 rfl (lv_at hl 1 rfl) ?_
  refine lv_aload_n hx hb dL_law_1622 rfl (lv_at hl 0 rfl) ?_
  refine lv_iload hx hb dL_law_1623 (lv_at hl 4 rfl) ?_
  refine lv_iconst (v := 1) hx hb dL_law_1625 (by decide) ?_
  refine lv_iadd hx hb dL_law_1626 ?_
  refine lv_topi (fun v1626 e1626 => ?_)
  have i1626 : v1626.toInt = i.toInt + 1 := zadd e1626 rfl (by decide) (by omega) (by omega)
  refine va_sld hx hb hX hbl hbA hS (vp_in_iff.mpr ⟨by omega, by omega⟩) dL_law_1627 ?_
  refine lv_topi (fun v1627 e1627 => ?_)
  refine k_X10_seen (rest := []) hcf hK3 hV hC hO hP hD hS (fun _ h => h) hl.1 (Nat.le_of_ble_eq_true rfl) (by show k + 0 ≤ 601024; omega) (by show n + 0 ≤ 7293034; omega) dL_law_1628 (fun v1628 C H locs hv1 hC hP hD hS => ?_)
  refine lv_pop hx hb dL_law_1631 rfl ?_
  refine lv_aload_n hx hb dL_law_1632 rfl (lv_at hl 2 rfl) ?_
  refine lv_aload_n hx hb dL_law_1633 rfl (lv_at hl 0 rfl) ?_
  refine lv_iload hx hb dL_law_1634 (lv_at hl 4 rfl) ?_
  refine lv_iconst (v := 1) hx hb dL_law_1636 (by decide) ?_
  refine lv_iadd hx hb dL_law_1637 ?_
  refine lv_topi (fun v1637 e1637 => ?_)
  have i1637 : v1637.toInt = i.toInt + 1 := zadd e1637 rfl (by decide) (by omega) (by omega)
  refine va_sld hx hb hX hbl hbA hS (vp_in_iff.mpr ⟨by omega, by omega⟩) dL_law_1638 ?_
  refine lv_topi (fun v1638 e1638 => ?_)
  have hP := zRotP hP
  have hD := zRotD hD
  refine k_X11_seen (rest := []) hcf hK3 hV hR hO hP hD hS (fun _ h => h) hl.1 (Nat.le_of_ble_eq_true rfl) (by show k + 0 ≤ 601024; omega) (by show n + 0 ≤ 7293034; omega) dL_law_1639 (fun v1639 Rr H locs hv2 hR hP hD hS => ?_)
  have hP := zRotP' hP
  have hD := zRotD' hD
  have ev0 : v1638 = v1627 := by rw [e1638, e1627, e1637, e1626]
  rw [ev0] at hv2
  have er : v1628.toInt = v1639.toInt := congrArg Int32.toInt (hv1.trans hv2.symm)
  refine lv_pop hx hb dL_law_1642 rfl ?_
  refine lv_goto (tgt := 1797) hx hb dL_law_1643 (by decide) ?_
  refine W.widen (k := k + 3) (n := n + 300) (by omega) (by omega) ?_
  exact J _ C Rr fo H locs ls hO hC hR hP hD hS (lv_sub hl [0, 1, 2, 3, 4] rfl)
set_option maxHeartbeats 4000000 in
set_option maxRecDepth 100000 in
theorem law_case_41 {p : Program} {l : Launch} {e : Env} {s : State} {m : MethodId} {below : List Frame} {meth : Method} {c : Code} {b L : Nat} {xs : Nat → Int32} {dC : Nat → ClassId} {dI : Nat → Nat → Nat} {cI cJ cQ : ClassId} {x0 m0 o0 : Nat} (hl0 : l.stackTraces = false) (C0 : lw_At p s m meth c b L xs) (hK3 : va_K (dC, dI) vwCl [(cI, .int), (cJ, .long), (cQ, .object "NinePortraits$Law")] s) (hV : zV (fun q : Nat => s.heap.size ≤ q) s) (hG : zG (fun q : Nat => s.heap.size ≤ q) s) (hCa : zCa s) (hL : L ≤ 3584) {sg : zSy} {C Rr : va_W} {fo : Nat → Int64} {i : Int32} {H : Heap} {locs : List Loc} {ls : Array Slot} {k n : Nat} (hO : zOkG sg) (hC : zCi cI cJ cQ x0 sg C) (hR : zRi cI m0 sg Rr) (hP : va_P (dC, dI) vwCl (C ++ ((o0, .inl (cJ, 1, .inr (.inl fo))) :: Rr)) H) (hD : va_D (fun q : Nat => s.heap.size ≤ q) (C ++ ((o0, .inl (cJ, 1, .inr (.inl fo))) :: Rr))) (hS : va_S (fun q : Nat => s.heap.size ≤ q) s.heap H locs) (hl : lv_has ls 7 [(0, .ref b), (1, .ref x0), (2, .ref m0), (3, .ref o0), (4, .int i)]) (hi0 : 0 ≤ i.toInt) (hiL : i.toInt + 7 ≤ (L : Int)) (hk : k + 3 ≤ 601024) (hn : n + 300 ≤ 7293034) (J : ∀ (sg : zSy) (C Rr : va_W) (fo : Nat → Int64) (H : Heap) (locs : List Loc) (ls : Array Slot), zOkG sg → zCi cI cJ cQ x0 sg C → zRi cI m0 sg Rr → va_P (dC, dI) vwCl (C ++ ((o0, .inl (cJ, 1, .inr (.inl fo))) :: Rr)) H → va_D (fun q : Nat => s.heap.size ≤ q) (C ++ ((o0, .inl (cJ, 1, .inr (.inl fo))) :: Rr)) → va_S (fun q : Nat => s.heap.size ≤ q) s.heap H locs → lv_has ls 7 [(0, .ref b), (1, .ref x0), (2, .ref m0), (3, .ref o0), (4, .int i)] → W p l e room_1 s m #[Value.ref b] below meth c H locs (k + 3) (n + 300) (lw_Z below #[Value.ref b] s) (F0 m 1797 ls [])) : W p l e room_1 s m #[Value.ref b] below meth c H locs k n (lw_Z below #[Value.ref b] s) (F0 m 1646 ls []) := by
  obtain ⟨hx, hb, hr, hml, hown, hts0, hX, hbl, hlocks, hgv⟩ := id C0
  have hts : ∀ w ∈ wA, w.before #[Value.ref b] s = true := fun w h => hts0 w (List.mem_filter.mp h).1
  have hown : s.vm.findClass RL = some m.cls := hown
  have hcf : CallFix p m c code 7 s #[Value.ref b] wA RL := ⟨hx, hb, hml, hown, hts⟩
  have hbA : ¬ (fun q : Nat => s.heap.size ≤ q) b := Nat.not_le.mpr hbl
  refine lv_aload_n hx hb dL_law_1646 rfl (lv_at hl 1 rfl) ?_
  refine lv_aload_n hx hb dL_law_1647 rfl (lv_at hl 0 rfl) ?_
  refine lv_iload hx hb dL_law_1648 (lv_at hl 4 rfl) ?_
  refine lv_iconst (v := 1) hx hb dL_law_1650 (by decide) ?_
  refine lv_iadd hx hb dL_law_1651 ?_
  refine lv_topi (fun v1651 e1651 => ?_)
  have i1651 : v1651.toInt = i.toInt + 1 := zadd e1651 rfl (by decide) (by omega) (by omega)
  refine va_sld hx hb hX hbl hbA hS (vp_in_iff.mpr ⟨by omega, by omega⟩) dL_law_1652 ?_
  refine lv_topi (fun v1652 e1652 => ?_)
  refine k_X10_saves (rest := []) hcf hK3 hV hC hO hP hD hS (fun _ h => h) hl.1 (Nat.le_of_ble_eq_true rfl) (by show k + 0 ≤ 601024; omega) (by show n + 0 ≤ 7293034; omega) dL_law_1653 (fun v1653 C H locs hv1 hC hP hD hS => ?_)
  refine lv_pop hx hb dL_law_1656 rfl ?_
  refine lv_aload_n hx hb dL_law_1657 rfl (lv_at hl 2 rfl) ?_
  refine lv_aload_n hx hb dL_law_1658 rfl (lv_at hl 0 rfl) ?_
  refine lv_iload hx hb dL_law_1659 (lv_at hl 4 rfl) ?_
  refine lv_iconst (v := 1) hx hb dL_law_1661 (by decide) ?_
  refine lv_iadd hx hb dL_law_1662 ?_
  refine lv_topi (fun v1662 e1662 => ?_)
  have i1662 : v1662.toInt = i.toInt + 1 := zadd e1662 rfl (by decide) (by omega) (by omega)
  refine va_sld hx hb hX hbl hbA hS (vp_in_iff.mpr ⟨by omega, by omega⟩) dL_law_1663 ?_
  refine lv_topi (fun v1663 e1663 => ?_)
  have hP := zRotP hP
  have hD := zRotD hD
  refine k_X11_saves (rest := []) hcf hK3 hV hR hO hP hD hS (fun _ h => h) hl.1 (Nat.le_of_ble_eq_true rfl) (by show k + 0 ≤ 601024; omega) (by show n + 0 ≤ 7293034; omega) dL_law_1664 (fun v1664 Rr H locs hv2 hR hP hD hS => ?_)
  have hP := zRotP' hP
  have hD := zRotD' hD
  have ev0 : v1663 = v1652 := by rw [e1663, e1652, e1662, e1651]
  rw [ev0] at hv2
  have er : v1653.toInt = v1664.toInt := congrArg Int32.toInt (hv1.trans hv2.symm)
  refine lv_pop hx hb dL_law_1667 rfl ?_
  refine lv_goto (tgt := 1797) hx hb dL_law_1668 (by decide) ?_
  refine W.widen (k := k + 3) (n := n + 300) (by omega) (by omega) ?_
  exact J _ C Rr fo H locs ls hO hC hR hP hD hS (lv_sub hl [0, 1, 2, 3, 4] rfl)
set_option maxHeartbeats 4000000 in
set_option maxRecDepth 100000 in
theorem law_case_42 {p : Program} {l : Launch} {e : Env} {s : State} {m : MethodId} {below : List Frame} {meth : Method} {c : Code} {b L : Nat} {xs : Nat → Int32} {dC : Nat → ClassId} {dI : Nat → Nat → Nat} {cI cJ cQ : ClassId} {x0 m0 o0 : Nat} (hl0 : l.stackTraces = false) (C0 : lw_At p s m meth c b L xs) (hK3 : va_K (dC, dI) vwCl [(cI, .int), (cJ, .long), (cQ, .object "NinePortraits$Law")] s) (hV : zV (fun q : Nat => s.heap.size ≤ q) s) (hG : zG (fun q : Nat => s.heap.size ≤ q) s) (hCa : zCa s) (hL : L ≤ 3584) {sg : zSy} {C Rr : va_W} {fo : Nat → Int64} {i : Int32} {H : Heap} {locs : List Loc} {ls : Array Slot} {k n : Nat} (hO : zOkG sg) (hC : zCi cI cJ cQ x0 sg C) (hR : zRi cI m0 sg Rr) (hP : va_P (dC, dI) vwCl (C ++ ((o0, .inl (cJ, 1, .inr (.inl fo))) :: Rr)) H) (hD : va_D (fun q : Nat => s.heap.size ≤ q) (C ++ ((o0, .inl (cJ, 1, .inr (.inl fo))) :: Rr))) (hS : va_S (fun q : Nat => s.heap.size ≤ q) s.heap H locs) (hl : lv_has ls 7 [(0, .ref b), (1, .ref x0), (2, .ref m0), (3, .ref o0), (4, .int i)]) (hi0 : 0 ≤ i.toInt) (hiL : i.toInt + 7 ≤ (L : Int)) (hk : k + 3 ≤ 601024) (hn : n + 300 ≤ 7293034) (J : ∀ (sg : zSy) (C Rr : va_W) (fo : Nat → Int64) (H : Heap) (locs : List Loc) (ls : Array Slot), zOkG sg → zCi cI cJ cQ x0 sg C → zRi cI m0 sg Rr → va_P (dC, dI) vwCl (C ++ ((o0, .inl (cJ, 1, .inr (.inl fo))) :: Rr)) H → va_D (fun q : Nat => s.heap.size ≤ q) (C ++ ((o0, .inl (cJ, 1, .inr (.inl fo))) :: Rr)) → va_S (fun q : Nat => s.heap.size ≤ q) s.heap H locs → lv_has ls 7 [(0, .ref b), (1, .ref x0), (2, .ref m0), (3, .ref o0), (4, .int i)] → W p l e room_1 s m #[Value.ref b] below meth c H locs (k + 3) (n + 300) (lw_Z below #[Value.ref b] s) (F0 m 1797 ls [])) : W p l e room_1 s m #[Value.ref b] below meth c H locs k n (lw_Z below #[Value.ref b] s) (F0 m 1671 ls []) := by
  obtain ⟨hx, hb, hr, hml, hown, hts0, hX, hbl, hlocks, hgv⟩ := id C0
  have hts : ∀ w ∈ wA, w.before #[Value.ref b] s = true := fun w h => hts0 w (List.mem_filter.mp h).1
  have hown : s.vm.findClass RL = some m.cls := hown
  have hcf : CallFix p m c code 7 s #[Value.ref b] wA RL := ⟨hx, hb, hml, hown, hts⟩
  have hbA : ¬ (fun q : Nat => s.heap.size ≤ q) b := Nat.not_le.mpr hbl
  refine lv_aload_n hx hb dL_law_1671 rfl (lv_at hl 1 rfl) ?_
  refine lv_aload_n hx hb dL_law_1672 rfl (lv_at hl 0 rfl) ?_
  refine lv_iload hx hb dL_law_1673 (lv_at hl 4 rfl) ?_
  refine lv_iconst (v := 1) hx hb dL_law_1675 (by decide) ?_
  refine lv_iadd hx hb dL_law_1676 ?_
  refine lv_topi (fun v1676 e1676 => ?_)
  have i1676 : v1676.toInt = i.toInt + 1 := zadd e1676 rfl (by decide) (by omega) (by omega)
  refine va_sld hx hb hX hbl hbA hS (vp_in_iff.mpr ⟨by omega, by omega⟩) dL_law_1677 ?_
  refine lv_topi (fun v1677 e1677 => ?_)
  refine k_X10_rivals (rest := []) hcf hK3 hV hC hO hP hD hS (fun _ h => h) hl.1 (Nat.le_of_ble_eq_true rfl) (by show k + 0 ≤ 601024; omega) (by show n + 0 ≤ 7293034; omega) dL_law_1678 (fun v1678 C H locs hv1 hC hP hD hS => ?_)
  refine lv_pop hx hb dL_law_1681 rfl ?_
  refine lv_aload_n hx hb dL_law_1682 rfl (lv_at hl 2 rfl) ?_
  refine lv_aload_n hx hb dL_law_1683 rfl (lv_at hl 0 rfl) ?_
  refine lv_iload hx hb dL_law_1684 (lv_at hl 4 rfl) ?_
  refine lv_iconst (v := 1) hx hb dL_law_1686 (by decide) ?_
  refine lv_iadd hx hb dL_law_1687 ?_
  refine lv_topi (fun v1687 e1687 => ?_)
  have i1687 : v1687.toInt = i.toInt + 1 := zadd e1687 rfl (by decide) (by omega) (by omega)
  refine va_sld hx hb hX hbl hbA hS (vp_in_iff.mpr ⟨by omega, by omega⟩) dL_law_1688 ?_
  refine lv_topi (fun v1688 e1688 => ?_)
  have hP := zRotP hP
  have hD := zRotD hD
  refine k_X11_rivals (rest := []) hcf hK3 hV hR hO hP hD hS (fun _ h => h) hl.1 (Nat.le_of_ble_eq_true rfl) (by show k + 0 ≤ 601024; omega) (by show n + 0 ≤ 7293034; omega) dL_law_1689 (fun v1689 Rr H locs hv2 hR hP hD hS => ?_)
  have hP := zRotP' hP
  have hD := zRotD' hD
  have ev0 : v1688 = v1677 := by rw [e1688, e1677, e1687, e1676]
  rw [ev0] at hv2
  have er : v1678.toInt = v1689.toInt := congrArg Int32.toInt (hv1.trans hv2.symm)
  refine lv_pop hx hb dL_law_1692 rfl ?_
  refine lv_goto (tgt := 1797) hx hb dL_law_1693 (by decide) ?_
  refine W.widen (k := k + 3) (n := n + 300) (by omega) (by omega) ?_
  exact J _ C Rr fo H locs ls hO hC hR hP hD hS (lv_sub hl [0, 1, 2, 3, 4] rfl)
set_option maxHeartbeats 4000000 in
set_option maxRecDepth 100000 in
theorem law_case_43 {p : Program} {l : Launch} {e : Env} {s : State} {m : MethodId} {below : List Frame} {meth : Method} {c : Code} {b L : Nat} {xs : Nat → Int32} {dC : Nat → ClassId} {dI : Nat → Nat → Nat} {cI cJ cQ : ClassId} {x0 m0 o0 : Nat} (hl0 : l.stackTraces = false) (C0 : lw_At p s m meth c b L xs) (hK3 : va_K (dC, dI) vwCl [(cI, .int), (cJ, .long), (cQ, .object "NinePortraits$Law")] s) (hV : zV (fun q : Nat => s.heap.size ≤ q) s) (hG : zG (fun q : Nat => s.heap.size ≤ q) s) (hCa : zCa s) (hL : L ≤ 3584) {sg : zSy} {C Rr : va_W} {fo : Nat → Int64} {i : Int32} {H : Heap} {locs : List Loc} {ls : Array Slot} {k n : Nat} (hO : zOkG sg) (hC : zCi cI cJ cQ x0 sg C) (hR : zRi cI m0 sg Rr) (hP : va_P (dC, dI) vwCl (C ++ ((o0, .inl (cJ, 1, .inr (.inl fo))) :: Rr)) H) (hD : va_D (fun q : Nat => s.heap.size ≤ q) (C ++ ((o0, .inl (cJ, 1, .inr (.inl fo))) :: Rr))) (hS : va_S (fun q : Nat => s.heap.size ≤ q) s.heap H locs) (hl : lv_has ls 7 [(0, .ref b), (1, .ref x0), (2, .ref m0), (3, .ref o0), (4, .int i)]) (hi0 : 0 ≤ i.toInt) (hiL : i.toInt + 7 ≤ (L : Int)) (hk : k + 3 ≤ 601024) (hn : n + 300 ≤ 7293034) (J : ∀ (sg : zSy) (C Rr : va_W) (fo : Nat → Int64) (H : Heap) (locs : List Loc) (ls : Array Slot), zOkG sg → zCi cI cJ cQ x0 sg C → zRi cI m0 sg Rr → va_P (dC, dI) vwCl (C ++ ((o0, .inl (cJ, 1, .inr (.inl fo))) :: Rr)) H → va_D (fun q : Nat => s.heap.size ≤ q) (C ++ ((o0, .inl (cJ, 1, .inr (.inl fo))) :: Rr)) → va_S (fun q : Nat => s.heap.size ≤ q) s.heap H locs → lv_has ls 7 [(0, .ref b), (1, .ref x0), (2, .ref m0), (3, .ref o0), (4, .int i)] → W p l e room_1 s m #[Value.ref b] below meth c H locs (k + 3) (n + 300) (lw_Z below #[Value.ref b] s) (F0 m 1797 ls [])) : W p l e room_1 s m #[Value.ref b] below meth c H locs k n (lw_Z below #[Value.ref b] s) (F0 m 1696 ls []) := by
  obtain ⟨hx, hb, hr, hml, hown, hts0, hX, hbl, hlocks, hgv⟩ := id C0
  have hts : ∀ w ∈ wA, w.before #[Value.ref b] s = true := fun w h => hts0 w (List.mem_filter.mp h).1
  have hown : s.vm.findClass RL = some m.cls := hown
  have hcf : CallFix p m c code 7 s #[Value.ref b] wA RL := ⟨hx, hb, hml, hown, hts⟩
  have hbA : ¬ (fun q : Nat => s.heap.size ≤ q) b := Nat.not_le.mpr hbl
  refine lv_aload_n hx hb dL_law_1696 rfl (lv_at hl 1 rfl) ?_
  refine lv_aload_n hx hb dL_law_1697 rfl (lv_at hl 0 rfl) ?_
  refine lv_iload hx hb dL_law_1698 (lv_at hl 4 rfl) ?_
  refine lv_iconst (v := 1) hx hb dL_law_1700 (by decide) ?_
  refine lv_iadd hx hb dL_law_1701 ?_
  refine lv_topi (fun v1701 e1701 => ?_)
  have i1701 : v1701.toInt = i.toInt + 1 := zadd e1701 rfl (by decide) (by omega) (by omega)
  refine va_sld hx hb hX hbl hbA hS (vp_in_iff.mpr ⟨by omega, by omega⟩) dL_law_1702 ?_
  refine lv_topi (fun v1702 e1702 => ?_)
  refine k_X10_affords (rest := []) hcf hK3 hV hC hO hP hD hS (fun _ h => h) hl.1 (Nat.le_of_ble_eq_true rfl) (by show k + 0 ≤ 601024; omega) (by show n + 0 ≤ 7293034; omega) dL_law_1703 (fun v1703 C H locs hv1 hC hP hD hS => ?_)
  refine lv_pop hx hb dL_law_1706 rfl ?_
  refine lv_aload_n hx hb dL_law_1707 rfl (lv_at hl 2 rfl) ?_
  refine lv_aload_n hx hb dL_law_1708 rfl (lv_at hl 0 rfl) ?_
  refine lv_iload hx hb dL_law_1709 (lv_at hl 4 rfl) ?_
  refine lv_iconst (v := 1) hx hb dL_law_1711 (by decide) ?_
  refine lv_iadd hx hb dL_law_1712 ?_
  refine lv_topi (fun v1712 e1712 => ?_)
  have i1712 : v1712.toInt = i.toInt + 1 := zadd e1712 rfl (by decide) (by omega) (by omega)
  refine va_sld hx hb hX hbl hbA hS (vp_in_iff.mpr ⟨by omega, by omega⟩) dL_law_1713 ?_
  refine lv_topi (fun v1713 e1713 => ?_)
  have hP := zRotP hP
  have hD := zRotD hD
  refine k_X11_affords (rest := []) hcf hK3 hV hR hO hP hD hS (fun _ h => h) hl.1 (Nat.le_of_ble_eq_true rfl) (by show k + 0 ≤ 601024; omega) (by show n + 0 ≤ 7293034; omega) dL_law_1714 (fun v1714 Rr H locs hv2 hR hP hD hS => ?_)
  have hP := zRotP' hP
  have hD := zRotD' hD
  have ev0 : v1713 = v1702 := by rw [e1713, e1702, e1712, e1701]
  rw [ev0] at hv2
  have er : v1703.toInt = v1714.toInt := congrArg Int32.toInt (hv1.trans hv2.symm)
  refine lv_pop hx hb dL_law_1717 rfl ?_
  refine lv_goto (tgt := 1797) hx hb dL_law_1718 (by decide) ?_
  refine W.widen (k := k + 3) (n := n + 300) (by omega) (by omega) ?_
  exact J _ C Rr fo H locs ls hO hC hR hP hD hS (lv_sub hl [0, 1, 2, 3, 4] rfl)
set_option maxHeartbeats 4000000 in
set_option maxRecDepth 100000 in
theorem law_case_44 {p : Program} {l : Launch} {e : Env} {s : State} {m : MethodId} {below : List Frame} {meth : Method} {c : Code} {b L : Nat} {xs : Nat → Int32} {dC : Nat → ClassId} {dI : Nat → Nat → Nat} {cI cJ cQ : ClassId} {x0 m0 o0 : Nat} (hl0 : l.stackTraces = false) (C0 : lw_At p s m meth c b L xs) (hK3 : va_K (dC, dI) vwCl [(cI, .int), (cJ, .long), (cQ, .object "NinePortraits$Law")] s) (hV : zV (fun q : Nat => s.heap.size ≤ q) s) (hG : zG (fun q : Nat => s.heap.size ≤ q) s) (hCa : zCa s) (hL : L ≤ 3584) {sg : zSy} {C Rr : va_W} {fo : Nat → Int64} {i : Int32} {H : Heap} {locs : List Loc} {ls : Array Slot} {k n : Nat} (hO : zOkG sg) (hC : zCi cI cJ cQ x0 sg C) (hR : zRi cI m0 sg Rr) (hP : va_P (dC, dI) vwCl (C ++ ((o0, .inl (cJ, 1, .inr (.inl fo))) :: Rr)) H) (hD : va_D (fun q : Nat => s.heap.size ≤ q) (C ++ ((o0, .inl (cJ, 1, .inr (.inl fo))) :: Rr))) (hS : va_S (fun q : Nat => s.heap.size ≤ q) s.heap H locs) (hl : lv_has ls 7 [(0, .ref b), (1, .ref x0), (2, .ref m0), (3, .ref o0), (4, .int i)]) (hi0 : 0 ≤ i.toInt) (hiL : i.toInt + 7 ≤ (L : Int)) (hk : k + 3 ≤ 601024) (hn : n + 300 ≤ 7293034) (J : ∀ (sg : zSy) (C Rr : va_W) (fo : Nat → Int64) (H : Heap) (locs : List Loc) (ls : Array Slot), zOkG sg → zCi cI cJ cQ x0 sg C → zRi cI m0 sg Rr → va_P (dC, dI) vwCl (C ++ ((o0, .inl (cJ, 1, .inr (.inl fo))) :: Rr)) H → va_D (fun q : Nat => s.heap.size ≤ q) (C ++ ((o0, .inl (cJ, 1, .inr (.inl fo))) :: Rr)) → va_S (fun q : Nat => s.heap.size ≤ q) s.heap H locs → lv_has ls 7 [(0, .ref b), (1, .ref x0), (2, .ref m0), (3, .ref o0), (4, .int i)] → W p l e room_1 s m #[Value.ref b] below meth c H locs (k + 3) (n + 300) (lw_Z below #[Value.ref b] s) (F0 m 1797 ls [])) : W p l e room_1 s m #[Value.ref b] below meth c H locs k n (lw_Z below #[Value.ref b] s) (F0 m 1721 ls []) := by
  obtain ⟨hx, hb, hr, hml, hown, hts0, hX, hbl, hlocks, hgv⟩ := id C0
  have hts : ∀ w ∈ wA, w.before #[Value.ref b] s = true := fun w h => hts0 w (List.mem_filter.mp h).1
  have hown : s.vm.findClass RL = some m.cls := hown
  have hcf : CallFix p m c code 7 s #[Value.ref b] wA RL := ⟨hx, hb, hml, hown, hts⟩
  have hbA : ¬ (fun q : Nat => s.heap.size ≤ q) b := Nat.not_le.mpr hbl
  refine lv_aload_n hx hb dL_law_1721 rfl (lv_at hl 1 rfl) ?_
  refine lv_aload_n hx hb dL_law_1722 rfl (lv_at hl 0 rfl) ?_
  refine lv_iload hx hb dL_law_1723 (lv_at hl 4 rfl) ?_
  refine lv_iconst (v := 1) hx hb dL_law_1725 (by decide) ?_
  refine lv_iadd hx hb dL_law_1726 ?_
  refine lv_topi (fun v1726 e1726 => ?_)
  have i1726 : v1726.toInt = i.toInt + 1 := zadd e1726 rfl (by decide) (by omega) (by omega)
  refine va_sld hx hb hX hbl hbA hS (vp_in_iff.mpr ⟨by omega, by omega⟩) dL_law_1727 ?_
  refine lv_topi (fun v1727 e1727 => ?_)
  refine k_X10_told (rest := []) hcf hK3 hV hC hO hP hD hS (fun _ h => h) hl.1 (Nat.le_of_ble_eq_true rfl) (by show k + 0 ≤ 601024; omega) (by show n + 0 ≤ 7293034; omega) dL_law_1728 (fun v1728 C H locs hv1 hC hP hD hS => ?_)
  refine lv_pop hx hb dL_law_1731 rfl ?_
  refine lv_aload_n hx hb dL_law_1732 rfl (lv_at hl 2 rfl) ?_
  refine lv_aload_n hx hb dL_law_1733 rfl (lv_at hl 0 rfl) ?_
  refine lv_iload hx hb dL_law_1734 (lv_at hl 4 rfl) ?_
  refine lv_iconst (v := 1) hx hb dL_law_1736 (by decide) ?_
  refine lv_iadd hx hb dL_law_1737 ?_
  refine lv_topi (fun v1737 e1737 => ?_)
  have i1737 : v1737.toInt = i.toInt + 1 := zadd e1737 rfl (by decide) (by omega) (by omega)
  refine va_sld hx hb hX hbl hbA hS (vp_in_iff.mpr ⟨by omega, by omega⟩) dL_law_1738 ?_
  refine lv_topi (fun v1738 e1738 => ?_)
  have hP := zRotP hP
  have hD := zRotD hD
  refine k_X11_told (rest := []) hcf hK3 hV hR hO hP hD hS (fun _ h => h) hl.1 (Nat.le_of_ble_eq_true rfl) (by show k + 0 ≤ 601024; omega) (by show n + 0 ≤ 7293034; omega) dL_law_1739 (fun v1739 Rr H locs hv2 hR hP hD hS => ?_)
  have hP := zRotP' hP
  have hD := zRotD' hD
  have ev0 : v1738 = v1727 := by rw [e1738, e1727, e1737, e1726]
  rw [ev0] at hv2
  have er : v1728.toInt = v1739.toInt := congrArg Int32.toInt (hv1.trans hv2.symm)
  refine lv_pop hx hb dL_law_1742 rfl ?_
  refine lv_goto (tgt := 1797) hx hb dL_law_1743 (by decide) ?_
  refine W.widen (k := k + 3) (n := n + 300) (by omega) (by omega) ?_
  exact J _ C Rr fo H locs ls hO hC hR hP hD hS (lv_sub hl [0, 1, 2, 3, 4] rfl)
set_option maxHeartbeats 4000000 in
set_option maxRecDepth 100000 in
theorem law_case_45 {p : Program} {l : Launch} {e : Env} {s : State} {m : MethodId} {below : List Frame} {meth : Method} {c : Code} {b L : Nat} {xs : Nat → Int32} {dC : Nat → ClassId} {dI : Nat → Nat → Nat} {cI cJ cQ : ClassId} {x0 m0 o0 : Nat} (hl0 : l.stackTraces = false) (C0 : lw_At p s m meth c b L xs) (hK3 : va_K (dC, dI) vwCl [(cI, .int), (cJ, .long), (cQ, .object "NinePortraits$Law")] s) (hV : zV (fun q : Nat => s.heap.size ≤ q) s) (hG : zG (fun q : Nat => s.heap.size ≤ q) s) (hCa : zCa s) (hL : L ≤ 3584) {sg : zSy} {C Rr : va_W} {fo : Nat → Int64} {i : Int32} {H : Heap} {locs : List Loc} {ls : Array Slot} {k n : Nat} (hO : zOkG sg) (hC : zCi cI cJ cQ x0 sg C) (hR : zRi cI m0 sg Rr) (hP : va_P (dC, dI) vwCl (C ++ ((o0, .inl (cJ, 1, .inr (.inl fo))) :: Rr)) H) (hD : va_D (fun q : Nat => s.heap.size ≤ q) (C ++ ((o0, .inl (cJ, 1, .inr (.inl fo))) :: Rr))) (hS : va_S (fun q : Nat => s.heap.size ≤ q) s.heap H locs) (hl : lv_has ls 7 [(0, .ref b), (1, .ref x0), (2, .ref m0), (3, .ref o0), (4, .int i)]) (hi0 : 0 ≤ i.toInt) (hiL : i.toInt + 7 ≤ (L : Int)) (hk : k + 3 ≤ 601024) (hn : n + 300 ≤ 7293034) (J : ∀ (sg : zSy) (C Rr : va_W) (fo : Nat → Int64) (H : Heap) (locs : List Loc) (ls : Array Slot), zOkG sg → zCi cI cJ cQ x0 sg C → zRi cI m0 sg Rr → va_P (dC, dI) vwCl (C ++ ((o0, .inl (cJ, 1, .inr (.inl fo))) :: Rr)) H → va_D (fun q : Nat => s.heap.size ≤ q) (C ++ ((o0, .inl (cJ, 1, .inr (.inl fo))) :: Rr)) → va_S (fun q : Nat => s.heap.size ≤ q) s.heap H locs → lv_has ls 7 [(0, .ref b), (1, .ref x0), (2, .ref m0), (3, .ref o0), (4, .int i)] → W p l e room_1 s m #[Value.ref b] below meth c H locs (k + 3) (n + 300) (lw_Z below #[Value.ref b] s) (F0 m 1797 ls [])) : W p l e room_1 s m #[Value.ref b] below meth c H locs k n (lw_Z below #[Value.ref b] s) (F0 m 1746 ls []) := by
  obtain ⟨hx, hb, hr, hml, hown, hts0, hX, hbl, hlocks, hgv⟩ := id C0
  have hts : ∀ w ∈ wA, w.before #[Value.ref b] s = true := fun w h => hts0 w (List.mem_filter.mp h).1
  have hown : s.vm.findClass RL = some m.cls := hown
  have hcf : CallFix p m c code 7 s #[Value.ref b] wA RL := ⟨hx, hb, hml, hown, hts⟩
  have hbA : ¬ (fun q : Nat => s.heap.size ≤ q) b := Nat.not_le.mpr hbl
  refine lv_aload_n hx hb dL_law_1746 rfl (lv_at hl 1 rfl) ?_
  refine k_X10_image (rest := []) hcf hK3 hV hC hO hP hD hS (fun _ h => h) hl.1 (Nat.le_of_ble_eq_true rfl) (by show k + 0 ≤ 601024; omega) (by show n + 0 ≤ 7293034; omega) dL_law_1747 (fun v1747 C H locs hv1 hC hP hD hS => ?_)
  refine lv_pop hx hb dL_law_1750 rfl ?_
  refine lv_aload_n hx hb dL_law_1751 rfl (lv_at hl 2 rfl) ?_
  have hP := zRotP hP
  have hD := zRotD hD
  refine k_X11_image (rest := []) hcf hK3 hV hR hO hP hD hS (fun _ h => h) hl.1 (Nat.le_of_ble_eq_true rfl) (by show k + 0 ≤ 601024; omega) (by show n + 0 ≤ 7293034; omega) dL_law_1752 (fun v1752 Rr H locs hv2 hR hP hD hS => ?_)
  have hP := zRotP' hP
  have hD := zRotD' hD
  have er : v1747.toInt = v1752.toInt := congrArg Int32.toInt (hv1.trans hv2.symm)
  have hO : zOkG (sg.1, sg.2.1, sg.2.2.1, sg.2.2.2.1, sg.2.2.2.2.1, sg.2.2.2.2.2.1, sI_img sg.2.2.2.1.1.toInt sg.2.2.2.2.2.1 sg.2.2.2.2.2.2) := ⟨ok_img hO.1, hO.2⟩
  refine lv_pop hx hb dL_law_1755 rfl ?_
  refine lv_goto (tgt := 1797) hx hb dL_law_1756 (by decide) ?_
  refine W.widen (k := k + 3) (n := n + 300) (by omega) (by omega) ?_
  exact J _ C Rr fo H locs ls hO hC hR hP hD hS (lv_sub hl [0, 1, 2, 3, 4] rfl)
set_option maxHeartbeats 4000000 in
set_option maxRecDepth 100000 in
theorem law_case_46 {p : Program} {l : Launch} {e : Env} {s : State} {m : MethodId} {below : List Frame} {meth : Method} {c : Code} {b L : Nat} {xs : Nat → Int32} {dC : Nat → ClassId} {dI : Nat → Nat → Nat} {cI cJ cQ : ClassId} {x0 m0 o0 : Nat} (hl0 : l.stackTraces = false) (C0 : lw_At p s m meth c b L xs) (hK3 : va_K (dC, dI) vwCl [(cI, .int), (cJ, .long), (cQ, .object "NinePortraits$Law")] s) (hV : zV (fun q : Nat => s.heap.size ≤ q) s) (hG : zG (fun q : Nat => s.heap.size ≤ q) s) (hCa : zCa s) (hL : L ≤ 3584) {sg : zSy} {C Rr : va_W} {fo : Nat → Int64} {i : Int32} {H : Heap} {locs : List Loc} {ls : Array Slot} {k n : Nat} (hO : zOkG sg) (hC : zCi cI cJ cQ x0 sg C) (hR : zRi cI m0 sg Rr) (hP : va_P (dC, dI) vwCl (C ++ ((o0, .inl (cJ, 1, .inr (.inl fo))) :: Rr)) H) (hD : va_D (fun q : Nat => s.heap.size ≤ q) (C ++ ((o0, .inl (cJ, 1, .inr (.inl fo))) :: Rr))) (hS : va_S (fun q : Nat => s.heap.size ≤ q) s.heap H locs) (hl : lv_has ls 7 [(0, .ref b), (1, .ref x0), (2, .ref m0), (3, .ref o0), (4, .int i)]) (hi0 : 0 ≤ i.toInt) (hiL : i.toInt + 7 ≤ (L : Int)) (hk : k + 3 ≤ 601024) (hn : n + 300 ≤ 7293034) (J : ∀ (sg : zSy) (C Rr : va_W) (fo : Nat → Int64) (H : Heap) (locs : List Loc) (ls : Array Slot), zOkG sg → zCi cI cJ cQ x0 sg C → zRi cI m0 sg Rr → va_P (dC, dI) vwCl (C ++ ((o0, .inl (cJ, 1, .inr (.inl fo))) :: Rr)) H → va_D (fun q : Nat => s.heap.size ≤ q) (C ++ ((o0, .inl (cJ, 1, .inr (.inl fo))) :: Rr)) → va_S (fun q : Nat => s.heap.size ≤ q) s.heap H locs → lv_has ls 7 [(0, .ref b), (1, .ref x0), (2, .ref m0), (3, .ref o0), (4, .int i)] → W p l e room_1 s m #[Value.ref b] below meth c H locs (k + 3) (n + 300) (lw_Z below #[Value.ref b] s) (F0 m 1797 ls [])) : W p l e room_1 s m #[Value.ref b] below meth c H locs k n (lw_Z below #[Value.ref b] s) (F0 m 1759 ls []) := by
  obtain ⟨hx, hb, hr, hml, hown, hts0, hX, hbl, hlocks, hgv⟩ := id C0
  have hts : ∀ w ∈ wA, w.before #[Value.ref b] s = true := fun w h => hts0 w (List.mem_filter.mp h).1
  have hown : s.vm.findClass RL = some m.cls := hown
  have hcf : CallFix p m c code 7 s #[Value.ref b] wA RL := ⟨hx, hb, hml, hown, hts⟩
  have hbA : ¬ (fun q : Nat => s.heap.size ≤ q) b := Nat.not_le.mpr hbl
  refine lv_aload_n hx hb dL_law_1759 rfl (lv_at hl 1 rfl) ?_
  refine k_X10_back (rest := []) hcf hK3 hV hC hO hP hD hS (fun _ h => h) hl.1 (Nat.le_of_ble_eq_true rfl) (by show k + 0 ≤ 601024; omega) (by show n + 0 ≤ 7293034; omega) dL_law_1760 (fun v1760 C H locs hv1 hC hP hD hS => ?_)
  refine lv_pop hx hb dL_law_1763 rfl ?_
  refine lv_aload_n hx hb dL_law_1764 rfl (lv_at hl 2 rfl) ?_
  have hP := zRotP hP
  have hD := zRotD hD
  refine k_X11_back (rest := []) hcf hK3 hV hR hO hP hD hS (fun _ h => h) hl.1 (Nat.le_of_ble_eq_true rfl) (by show k + 0 ≤ 601024; omega) (by show n + 0 ≤ 7293034; omega) dL_law_1765 (fun v1765 Rr H locs hv2 hR hP hD hS => ?_)
  have hP := zRotP' hP
  have hD := zRotD' hD
  have er : v1760.toInt = v1765.toInt := congrArg Int32.toInt (hv1.trans hv2.symm)
  have hO : zOkG (sg.1, sg.2.1, sg.2.2.1, sg.2.2.2.1, sg.2.2.2.2.1, sT_bck sg.2.2.2.2.2.2 sg.2.2.2.2.2.1, sg.2.2.2.2.2.2) := ⟨ok_bck hO.1, hO.2⟩
  refine lv_pop hx hb dL_law_1768 rfl ?_
  refine lv_goto (tgt := 1797) hx hb dL_law_1769 (by decide) ?_
  refine W.widen (k := k + 3) (n := n + 300) (by omega) (by omega) ?_
  exact J _ C Rr fo H locs ls hO hC hR hP hD hS (lv_sub hl [0, 1, 2, 3, 4] rfl)
set_option maxHeartbeats 4000000 in
set_option maxRecDepth 100000 in
theorem law_case_47 {p : Program} {l : Launch} {e : Env} {s : State} {m : MethodId} {below : List Frame} {meth : Method} {c : Code} {b L : Nat} {xs : Nat → Int32} {dC : Nat → ClassId} {dI : Nat → Nat → Nat} {cI cJ cQ : ClassId} {x0 m0 o0 : Nat} (hl0 : l.stackTraces = false) (C0 : lw_At p s m meth c b L xs) (hK3 : va_K (dC, dI) vwCl [(cI, .int), (cJ, .long), (cQ, .object "NinePortraits$Law")] s) (hV : zV (fun q : Nat => s.heap.size ≤ q) s) (hG : zG (fun q : Nat => s.heap.size ≤ q) s) (hCa : zCa s) (hL : L ≤ 3584) {sg : zSy} {C Rr : va_W} {fo : Nat → Int64} {i : Int32} {H : Heap} {locs : List Loc} {ls : Array Slot} {k n : Nat} (hO : zOkG sg) (hC : zCi cI cJ cQ x0 sg C) (hR : zRi cI m0 sg Rr) (hP : va_P (dC, dI) vwCl (C ++ ((o0, .inl (cJ, 1, .inr (.inl fo))) :: Rr)) H) (hD : va_D (fun q : Nat => s.heap.size ≤ q) (C ++ ((o0, .inl (cJ, 1, .inr (.inl fo))) :: Rr))) (hS : va_S (fun q : Nat => s.heap.size ≤ q) s.heap H locs) (hl : lv_has ls 7 [(0, .ref b), (1, .ref x0), (2, .ref m0), (3, .ref o0), (4, .int i)]) (hi0 : 0 ≤ i.toInt) (hiL : i.toInt + 7 ≤ (L : Int)) (hk : k + 3 ≤ 601024) (hn : n + 300 ≤ 7293034) (J : ∀ (sg : zSy) (C Rr : va_W) (fo : Nat → Int64) (H : Heap) (locs : List Loc) (ls : Array Slot), zOkG sg → zCi cI cJ cQ x0 sg C → zRi cI m0 sg Rr → va_P (dC, dI) vwCl (C ++ ((o0, .inl (cJ, 1, .inr (.inl fo))) :: Rr)) H → va_D (fun q : Nat => s.heap.size ≤ q) (C ++ ((o0, .inl (cJ, 1, .inr (.inl fo))) :: Rr)) → va_S (fun q : Nat => s.heap.size ≤ q) s.heap H locs → lv_has ls 7 [(0, .ref b), (1, .ref x0), (2, .ref m0), (3, .ref o0), (4, .int i)] → W p l e room_1 s m #[Value.ref b] below meth c H locs (k + 3) (n + 300) (lw_Z below #[Value.ref b] s) (F0 m 1797 ls [])) : W p l e room_1 s m #[Value.ref b] below meth c H locs k n (lw_Z below #[Value.ref b] s) (F0 m 1772 ls []) := by
  obtain ⟨hx, hb, hr, hml, hown, hts0, hX, hbl, hlocks, hgv⟩ := id C0
  have hts : ∀ w ∈ wA, w.before #[Value.ref b] s = true := fun w h => hts0 w (List.mem_filter.mp h).1
  have hown : s.vm.findClass RL = some m.cls := hown
  have hcf : CallFix p m c code 7 s #[Value.ref b] wA RL := ⟨hx, hb, hml, hown, hts⟩
  have hbA : ¬ (fun q : Nat => s.heap.size ≤ q) b := Nat.not_le.mpr hbl
  refine lv_aload_n hx hb dL_law_1772 rfl (lv_at hl 1 rfl) ?_
  refine lv_aload_n hx hb dL_law_1773 rfl (lv_at hl 0 rfl) ?_
  refine lv_iload hx hb dL_law_1774 (lv_at hl 4 rfl) ?_
  refine lv_iconst (v := 1) hx hb dL_law_1776 (by decide) ?_
  refine lv_iadd hx hb dL_law_1777 ?_
  refine lv_topi (fun v1777 e1777 => ?_)
  have i1777 : v1777.toInt = i.toInt + 1 := zadd e1777 rfl (by decide) (by omega) (by omega)
  refine va_sld hx hb hX hbl hbA hS (vp_in_iff.mpr ⟨by omega, by omega⟩) dL_law_1778 ?_
  refine lv_topi (fun v1778 e1778 => ?_)
  refine k_X10_count (rest := []) hcf hK3 hV hC hO hP hD hS (fun _ h => h) hl.1 (Nat.le_of_ble_eq_true rfl) (by show k + 0 ≤ 601024; omega) (by show n + 0 ≤ 7293034; omega) dL_law_1779 (fun v1779 C H locs hv1 hC hP hD hS => ?_)
  refine lv_pop hx hb dL_law_1782 rfl ?_
  refine lv_aload_n hx hb dL_law_1783 rfl (lv_at hl 2 rfl) ?_
  refine lv_aload_n hx hb dL_law_1784 rfl (lv_at hl 0 rfl) ?_
  refine lv_iload hx hb dL_law_1785 (lv_at hl 4 rfl) ?_
  refine lv_iconst (v := 1) hx hb dL_law_1787 (by decide) ?_
  refine lv_iadd hx hb dL_law_1788 ?_
  refine lv_topi (fun v1788 e1788 => ?_)
  have i1788 : v1788.toInt = i.toInt + 1 := zadd e1788 rfl (by decide) (by omega) (by omega)
  refine va_sld hx hb hX hbl hbA hS (vp_in_iff.mpr ⟨by omega, by omega⟩) dL_law_1789 ?_
  refine lv_topi (fun v1789 e1789 => ?_)
  have hP := zRotP hP
  have hD := zRotD hD
  refine k_X11_count (rest := []) hcf hK3 hV hR hO hP hD hS (fun _ h => h) hl.1 (Nat.le_of_ble_eq_true rfl) (by show k + 0 ≤ 601024; omega) (by show n + 0 ≤ 7293034; omega) dL_law_1790 (fun v1790 Rr H locs hv2 hR hP hD hS => ?_)
  have hP := zRotP' hP
  have hD := zRotD' hD
  have ev0 : v1789 = v1778 := by rw [e1789, e1778, e1788, e1777]
  rw [ev0] at hv2
  have er : v1779.toInt = v1790.toInt := hv1.trans hv2.symm
  refine lv_pop hx hb dL_law_1793 rfl ?_
  refine lv_goto (tgt := 1797) hx hb dL_law_1794 (by decide) ?_
  refine W.widen (k := k + 3) (n := n + 300) (by omega) (by omega) ?_
  exact J _ C Rr fo H locs ls hO hC hR hP hD hS (lv_sub hl [0, 1, 2, 3, 4] rfl)
set_option maxHeartbeats 4000000 in
set_option maxRecDepth 100000 in
theorem law_step {p : Program} {l : Launch} {e : Env} {s : State} {m : MethodId} {below : List Frame} {meth : Method} {c : Code} {b L : Nat} {xs : Nat → Int32} {dC : Nat → ClassId} {dI : Nat → Nat → Nat} {cI cJ cQ : ClassId} {x0 m0 o0 : Nat} (hl0 : l.stackTraces = false) (C0 : lw_At p s m meth c b L xs) (hK3 : va_K (dC, dI) vwCl [(cI, .int), (cJ, .long), (cQ, .object "NinePortraits$Law")] s) (hV : zV (fun q : Nat => s.heap.size ≤ q) s) (hG : zG (fun q : Nat => s.heap.size ≤ q) s) (hCa : zCa s) (hL : L ≤ 3584) {sg : zSy} {C Rr : va_W} {fo : Nat → Int64} {i : Int32} {H : Heap} {locs : List Loc} {ls : Array Slot} {k n : Nat} (hO : zOkG sg) (hC : zCi cI cJ cQ x0 sg C) (hR : zRi cI m0 sg Rr) (hP : va_P (dC, dI) vwCl (C ++ ((o0, .inl (cJ, 1, .inr (.inl fo))) :: Rr)) H) (hD : va_D (fun q : Nat => s.heap.size ≤ q) (C ++ ((o0, .inl (cJ, 1, .inr (.inl fo))) :: Rr))) (hS : va_S (fun q : Nat => s.heap.size ≤ q) s.heap H locs) (hl : lv_has ls 7 [(0, .ref b), (1, .ref x0), (2, .ref m0), (3, .ref o0), (4, .int i)]) (hi0 : 0 ≤ i.toInt) (hi9 : i.toInt ≤ 100000) (hk : k + 3 ≤ 601024) (hn : n + 300 ≤ 7293034) (J : i.toInt + 7 ≤ (L : Int) → ∀ (sg : zSy) (C Rr : va_W) (fo : Nat → Int64) (H : Heap) (locs : List Loc) (ls : Array Slot), zOkG sg → zCi cI cJ cQ x0 sg C → zRi cI m0 sg Rr → va_P (dC, dI) vwCl (C ++ ((o0, .inl (cJ, 1, .inr (.inl fo))) :: Rr)) H → va_D (fun q : Nat => s.heap.size ≤ q) (C ++ ((o0, .inl (cJ, 1, .inr (.inl fo))) :: Rr)) → va_S (fun q : Nat => s.heap.size ≤ q) s.heap H locs → lv_has ls 7 [(0, .ref b), (1, .ref x0), (2, .ref m0), (3, .ref o0), (4, .int i)] → W p l e room_1 s m #[Value.ref b] below meth c H locs (k + 3) (n + 300) (lw_Z below #[Value.ref b] s) (F0 m 1797 ls [])) : W p l e room_1 s m #[Value.ref b] below meth c H locs k n (lw_Z below #[Value.ref b] s) (F0 m 23 ls []) := by
  obtain ⟨hx, hb, hr, hml, hown, hts0, hX, hbl, hlocks, hgv⟩ := id C0
  have hbA : ¬ (fun q : Nat => s.heap.size ≤ q) b := Nat.not_le.mpr hbl
  refine lv_iload hx hb dL_law_23 (lv_at hl 4 rfl) ?_
  refine lv_aload_n hx hb dL_law_25 rfl (lv_at hl 0 rfl) ?_
  refine va_slen hx hb hX hbl hbA hS dL_law_26 ?_
  refine lv_bipush (v := 7) hx hb dL_law_27 (by decide) ?_
  refine lv_isub hx hb dL_law_29 ?_
  refine lv_topi (fun v29 e29 => ?_)
  have i29 : v29.toInt = (L : Int) - 7 := zsub e29 (nI_toInt (by omega)) (by decide) (by omega) (by omega)
  refine lv_icmp_gt (tgt := 1803) hx hb dL_law_30 (by decide) (fun c30 => ?_) (fun c30 => ?_)
  · refine lv_iconst (v := 1) hx hb dL_law_1803 (by decide) ?_
    refine W.widen (k := 601024) (n := 7293034) (by omega) (by omega) ?_
    refine va_forget (fun q hq => hS.2.2 q hq) ?_
    exact lw_ret hx hb hr hlocks dL_law_1804
  · have c30 : i.toInt ≤ v29.toInt := z2 rfl rfl c30
    have hiL : i.toInt + 7 ≤ (L : Int) := by omega
    have J := J hiL
    refine lv_aload_n hx hb dL_law_33 rfl (lv_at hl 0 rfl) ?_
    refine lv_iload hx hb dL_law_34 (lv_at hl 4 rfl) ?_
    refine va_sld hx hb hX hbl hbA hS (vp_in_iff.mpr ⟨by omega, by omega⟩) dL_law_36 ?_
    refine lv_bipush (v := 63) hx hb dL_law_37 (by decide) ?_
    refine lv_iand hx hb dL_law_39 ?_
    refine lv_topi (fun z ez => ?_)
    obtain ⟨j, hj, hz⟩ := pk_andE (xs (i.toNatClampNeg)) (m := 63) 6 (by decide)
    obtain rfl : z = nI j := ez.trans hz
    clear ez hz
    rcases Nat.lt_or_ge j 48 with h48 | h48
    · match j, h48 with
      | 0, _ => exact lv_tableIn (off := 208) (tgt := 248) hx hb dL_law_40 (by decide) (by decide) (by decide) (by decide) (law_case_0 hl0 C0 hK3 hV hG hCa hL hO hC hR hP hD hS hl hi0 hiL hk hn J)
      | 1, _ => exact lv_tableIn (off := 281) (tgt := 321) hx hb dL_law_40 (by decide) (by decide) (by decide) (by decide) (law_case_1 hl0 C0 hK3 hV hG hCa hL hO hC hR hP hD hS hl hi0 hiL hk hn J)
      | 2, _ => exact lv_tableIn (off := 306) (tgt := 346) hx hb dL_law_40 (by decide) (by decide) (by decide) (by decide) (law_case_2 hl0 C0 hK3 hV hG hCa hL hO hC hR hP hD hS hl hi0 hiL hk hn J)
      | 3, _ => exact lv_tableIn (off := 331) (tgt := 371) hx hb dL_law_40 (by decide) (by decide) (by decide) (by decide) (law_case_3 hl0 C0 hK3 hV hG hCa hL hO hC hR hP hD hS hl hi0 hiL hk hn J)
      | 4, _ => exact lv_tableIn (off := 356) (tgt := 396) hx hb dL_law_40 (by decide) (by decide) (by decide) (by decide) (law_case_4 hl0 C0 hK3 hV hG hCa hL hO hC hR hP hD hS hl hi0 hiL hk hn J)
      | 5, _ => exact lv_tableIn (off := 381) (tgt := 421) hx hb dL_law_40 (by decide) (by decide) (by decide) (by decide) (law_case_5 hl0 C0 hK3 hV hG hCa hL hO hC hR hP hD hS hl hi0 hiL hk hn J)
      | 6, _ => exact lv_tableIn (off := 421) (tgt := 461) hx hb dL_law_40 (by decide) (by decide) (by decide) (by decide) (law_case_6 hl0 C0 hK3 hV hG hCa hL hO hC hR hP hD hS hl hi0 hiL hk hn J)
      | 7, _ => exact lv_tableIn (off := 458) (tgt := 498) hx hb dL_law_40 (by decide) (by decide) (by decide) (by decide) (law_case_7 hl0 C0 hK3 hV hG hCa hL hO hC hR hP hD hS hl hi0 hiL hk hn J)
      | 8, _ => exact lv_tableIn (off := 483) (tgt := 523) hx hb dL_law_40 (by decide) (by decide) (by decide) (by decide) (law_case_8 hl0 C0 hK3 hV hG hCa hL hO hC hR hP hD hS hl hi0 hiL hk hn J)
      | 9, _ => exact lv_tableIn (off := 520) (tgt := 560) hx hb dL_law_40 (by decide) (by decide) (by decide) (by decide) (law_case_9 hl0 C0 hK3 hV hG hCa hL hO hC hR hP hD hS hl hi0 hiL hk hn J)
      | 10, _ => exact lv_tableIn (off := 569) (tgt := 609) hx hb dL_law_40 (by decide) (by decide) (by decide) (by decide) (law_case_10 hl0 C0 hK3 hV hG hCa hL hO hC hR hP hD hS hl hi0 hiL hk hn J)
      | 11, _ => exact lv_tableIn (off := 606) (tgt := 646) hx hb dL_law_40 (by decide) (by decide) (by decide) (by decide) (law_case_11 hl0 C0 hK3 hV hG hCa hL hO hC hR hP hD hS hl hi0 hiL hk hn J)
      | 12, _ => exact lv_tableIn (off := 643) (tgt := 683) hx hb dL_law_40 (by decide) (by decide) (by decide) (by decide) (law_case_12 hl0 C0 hK3 hV hG hCa hL hO hC hR hP hD hS hl hi0 hiL hk hn J)
      | 13, _ => exact lv_tableIn (off := 668) (tgt := 708) hx hb dL_law_40 (by decide) (by decide) (by decide) (by decide) (law_case_13 hl0 C0 hK3 hV hG hCa hL hO hC hR hP hD hS hl hi0 hiL hk hn J)
      | 14, _ => exact lv_tableIn (off := 693) (tgt := 733) hx hb dL_law_40 (by decide) (by decide) (by decide) (by decide) (law_case_14 hl0 C0 hK3 hV hG hCa hL hO hC hR hP hD hS hl hi0 hiL hk hn J)
      | 15, _ => exact lv_tableIn (off := 718) (tgt := 758) hx hb dL_law_40 (by decide) (by decide) (by decide) (by decide) (law_case_15 hl0 C0 hK3 hV hG hCa hL hO hC hR hP hD hS hl hi0 hiL hk hn J)
      | 16, _ => exact lv_tableIn (off := 743) (tgt := 783) hx hb dL_law_40 (by decide) (by decide) (by decide) (by decide) (law_case_16 hl0 C0 hK3 hV hG hCa hL hO hC hR hP hD hS hl hi0 hiL hk hn J)
      | 17, _ => exact lv_tableIn (off := 756) (tgt := 796) hx hb dL_law_40 (by decide) (by decide) (by decide) (by decide) (law_case_17 hl0 C0 hK3 hV hG hCa hL hO hC hR hP hD hS hl hi0 hiL hk hn J)
      | 18, _ => exact lv_tableIn (off := 781) (tgt := 821) hx hb dL_law_40 (by decide) (by decide) (by decide) (by decide) (law_case_18 hl0 C0 hK3 hV hG hCa hL hO hC hR hP hD hS hl hi0 hiL hk hn J)
      | 19, _ => exact lv_tableIn (off := 806) (tgt := 846) hx hb dL_law_40 (by decide) (by decide) (by decide) (by decide) (law_case_19 hl0 C0 hK3 hV hG hCa hL hO hC hR hP hD hS hl hi0 hiL hk hn J)
      | 20, _ => exact lv_tableIn (off := 875) (tgt := 915) hx hb dL_law_40 (by decide) (by decide) (by decide) (by decide) (law_case_20 hl0 C0 hK3 hV hG hCa hL hO hC hR hP hD hS hl hi0 hiL hk hn J)
      | 21, _ => exact lv_tableIn (off := 900) (tgt := 940) hx hb dL_law_40 (by decide) (by decide) (by decide) (by decide) (law_case_21 hl0 C0 hK3 hV hG hCa hL hO hC hR hP hD hS hl hi0 hiL hk hn J)
      | 22, _ => exact lv_tableIn (off := 913) (tgt := 953) hx hb dL_law_40 (by decide) (by decide) (by decide) (by decide) (law_case_22 hl0 C0 hK3 hV hG hCa hL hO hC hR hP hD hS hl hi0 hiL hk hn J)
      | 23, _ => exact lv_tableIn (off := 950) (tgt := 990) hx hb dL_law_40 (by decide) (by decide) (by decide) (by decide) (law_case_23 hl0 C0 hK3 hV hG hCa hL hO hC hR hP hD hS hl hi0 hiL hk hn J)
      | 24, _ => exact lv_tableIn (off := 975) (tgt := 1015) hx hb dL_law_40 (by decide) (by decide) (by decide) (by decide) (law_case_24 hl0 C0 hK3 hV hG hCa hL hO hC hR hP hD hS hl hi0 hiL hk hn J)
      | 25, _ => exact lv_tableIn (off := 1012) (tgt := 1052) hx hb dL_law_40 (by decide) (by decide) (by decide) (by decide) (law_case_25 hl0 C0 hK3 hV hG hCa hL hO hC hR hP hD hS hl hi0 hiL hk hn J)
      | 26, _ => exact lv_tableIn (off := 1049) (tgt := 1089) hx hb dL_law_40 (by decide) (by decide) (by decide) (by decide) (law_case_26 hl0 C0 hK3 hV hG hCa hL hO hC hR hP hD hS hl hi0 hiL hk hn J)
      | 27, _ => exact lv_tableIn (off := 1086) (tgt := 1126) hx hb dL_law_40 (by decide) (by decide) (by decide) (by decide) (law_case_27 hl0 C0 hK3 hV hG hCa hL hO hC hR hP hD hS hl hi0 hiL hk hn J)
      | 28, _ => exact lv_tableIn (off := 1111) (tgt := 1151) hx hb dL_law_40 (by decide) (by decide) (by decide) (by decide) (law_case_28 hl0 C0 hK3 hV hG hCa hL hO hC hR hP hD hS hl hi0 hiL hk hn J)
      | 29, _ => exact lv_tableIn (off := 1136) (tgt := 1176) hx hb dL_law_40 (by decide) (by decide) (by decide) (by decide) (law_case_29 hl0 C0 hK3 hV hG hCa hL hO hC hR hP hD hS hl hi0 hiL hk hn J)
      | 30, _ => exact lv_tableIn (off := 1173) (tgt := 1213) hx hb dL_law_40 (by decide) (by decide) (by decide) (by decide) (law_case_30 hl0 C0 hK3 hV hG hCa hL hO hC hR hP hD hS hl hi0 hiL hk hn J)
      | 31, _ => exact lv_tableIn (off := 1198) (tgt := 1238) hx hb dL_law_40 (by decide) (by decide) (by decide) (by decide) (law_case_31 hl0 C0 hK3 hV hG hCa hL hO hC hR hP hD hS hl hi0 hiL hk hn J)
      | 32, _ => exact lv_tableIn (off := 1285) (tgt := 1325) hx hb dL_law_40 (by decide) (by decide) (by decide) (by decide) (law_case_32 hl0 C0 hK3 hV hG hCa hL hO hC hR hP hD hS hl hi0 hiL hk hn J)
      | 33, _ => exact lv_tableIn (off := 1346) (tgt := 1386) hx hb dL_law_40 (by decide) (by decide) (by decide) (by decide) (law_case_33 hl0 C0 hK3 hV hG hCa hL hO hC hR hP hD hS hl hi0 hiL hk hn J)
      | 34, _ => exact lv_tableIn (off := 1383) (tgt := 1423) hx hb dL_law_40 (by decide) (by decide) (by decide) (by decide) (law_case_34 hl0 C0 hK3 hV hG hCa hL hO hC hR hP hD hS hl hi0 hiL hk hn J)
      | 35, _ => exact lv_tableIn (off := 1420) (tgt := 1460) hx hb dL_law_40 (by decide) (by decide) (by decide) (by decide) (law_case_35 hl0 C0 hK3 hV hG hCa hL hO hC hR hP hD hS hl hi0 hiL hk hn J)
      | 36, _ => exact lv_tableIn (off := 1445) (tgt := 1485) hx hb dL_law_40 (by decide) (by decide) (by decide) (by decide) (law_case_36 hl0 C0 hK3 hV hG hCa hL hO hC hR hP hD hS hl hi0 hiL hk hn J)
      | 37, _ => exact lv_tableIn (off := 1482) (tgt := 1522) hx hb dL_law_40 (by decide) (by decide) (by decide) (by decide) (law_case_37 hl0 C0 hK3 hV hG hCa hL hO hC hR hP hD hS hl hi0 hiL hk hn J)
      | 38, _ => exact lv_tableIn (off := 1531) (tgt := 1571) hx hb dL_law_40 (by decide) (by decide) (by decide) (by decide) (law_case_38 hl0 C0 hK3 hV hG hCa hL hO hC hR hP hD hS hl hi0 hiL hk hn J)
      | 39, _ => exact lv_tableIn (off := 1556) (tgt := 1596) hx hb dL_law_40 (by decide) (by decide) (by decide) (by decide) (law_case_39 hl0 C0 hK3 hV hG hCa hL hO hC hR hP hD hS hl hi0 hiL hk hn J)
      | 40, _ => exact lv_tableIn (off := 1581) (tgt := 1621) hx hb dL_law_40 (by decide) (by decide) (by decide) (by decide) (law_case_40 hl0 C0 hK3 hV hG hCa hL hO hC hR hP hD hS hl hi0 hiL hk hn J)
      | 41, _ => exact lv_tableIn (off := 1606) (tgt := 1646) hx hb dL_law_40 (by decide) (by decide) (by decide) (by decide) (law_case_41 hl0 C0 hK3 hV hG hCa hL hO hC hR hP hD hS hl hi0 hiL hk hn J)
      | 42, _ => exact lv_tableIn (off := 1631) (tgt := 1671) hx hb dL_law_40 (by decide) (by decide) (by decide) (by decide) (law_case_42 hl0 C0 hK3 hV hG hCa hL hO hC hR hP hD hS hl hi0 hiL hk hn J)
      | 43, _ => exact lv_tableIn (off := 1656) (tgt := 1696) hx hb dL_law_40 (by decide) (by decide) (by decide) (by decide) (law_case_43 hl0 C0 hK3 hV hG hCa hL hO hC hR hP hD hS hl hi0 hiL hk hn J)
      | 44, _ => exact lv_tableIn (off := 1681) (tgt := 1721) hx hb dL_law_40 (by decide) (by decide) (by decide) (by decide) (law_case_44 hl0 C0 hK3 hV hG hCa hL hO hC hR hP hD hS hl hi0 hiL hk hn J)
      | 45, _ => exact lv_tableIn (off := 1706) (tgt := 1746) hx hb dL_law_40 (by decide) (by decide) (by decide) (by decide) (law_case_45 hl0 C0 hK3 hV hG hCa hL hO hC hR hP hD hS hl hi0 hiL hk hn J)
      | 46, _ => exact lv_tableIn (off := 1719) (tgt := 1759) hx hb dL_law_40 (by decide) (by decide) (by decide) (by decide) (law_case_46 hl0 C0 hK3 hV hG hCa hL hO hC hR hP hD hS hl hi0 hiL hk hn J)
      | 47, _ => exact lv_tableIn (off := 1732) (tgt := 1772) hx hb dL_law_40 (by decide) (by decide) (by decide) (by decide) (law_case_47 hl0 C0 hK3 hV hG hCa hL hO hC hR hP hD hS hl hi0 hiL hk hn J)
      | k + 48, h => exact absurd h (by omega)
    · refine lv_tableOut (tgt := 1797) hx hb dL_law_40 (Or.inr (by rw [nI_toInt (by omega)]; omega)) (by decide) ?_
      refine W.widen (k := k + 3) (n := n + 300) (by omega) (by omega) ?_
      exact J sg C Rr fo H locs ls hO hC hR hP hD hS hl
set_option maxHeartbeats 4000000 in
set_option maxRecDepth 100000 in
theorem law_loop {p : Program} {l : Launch} {e : Env} {s : State} {m : MethodId} {below : List Frame} {meth : Method} {c : Code} {b L : Nat} {xs : Nat → Int32} {dC : Nat → ClassId} {dI : Nat → Nat → Nat} {cI cJ cQ : ClassId} {x0 m0 o0 : Nat} (hl0 : l.stackTraces = false) (C0 : lw_At p s m meth c b L xs) (hK3 : va_K (dC, dI) vwCl [(cI, .int), (cJ, .long), (cQ, .object "NinePortraits$Law")] s) (hV : zV (fun q : Nat => s.heap.size ≤ q) s) (hG : zG (fun q : Nat => s.heap.size ≤ q) s) (hCa : zCa s) (hL : L ≤ 3584) : ∀ (N t : Nat) (sg : zSy) (C Rr : va_W) (fo : Nat → Int64) (i : Int32) (H : Heap) (locs : List Loc) (ls : Array Slot), t + N = 600 → i.toInt = 7 * (t : Int) → zOkG sg → zCi cI cJ cQ x0 sg C → zRi cI m0 sg Rr → va_P (dC, dI) vwCl (C ++ ((o0, .inl (cJ, 1, .inr (.inl fo))) :: Rr)) H → va_D (fun q : Nat => s.heap.size ≤ q) (C ++ ((o0, .inl (cJ, 1, .inr (.inl fo))) :: Rr)) → va_S (fun q : Nat => s.heap.size ≤ q) s.heap H locs → lv_has ls 7 [(0, .ref b), (1, .ref x0), (2, .ref m0), (3, .ref o0), (4, .int i)] → W p l e room_1 s m #[Value.ref b] below meth c H locs (62 + 3 * t) (13545 + 300 * t) (lw_Z below #[Value.ref b] s) (F0 m 23 ls []) := by
  intro N
  induction N with
  | zero =>
    intro t sg C Rr fo i H locs ls hN hi hO hC hR hP hD hS hl
    exact law_step hl0 C0 hK3 hV hG hCa hL hO hC hR hP hD hS hl (by omega) (by omega) (by omega) (by omega) (fun q => absurd q (by omega))
  | succ N ih =>
    intro t sg C Rr fo i H locs ls hN hi hO hC hR hP hD hS hl
    refine law_step hl0 C0 hK3 hV hG hCa hL hO hC hR hP hD hS hl (by omega) (by omega) (by omega) (by omega) (fun q => ?_)
    intro sg C Rr fo H locs ls hO hC hR hP hD hS hl
    obtain ⟨hx, hb, hr, hml, hown, hts0, hX, hbl, hlocks, hgv⟩ := id C0
    obtain ⟨v, ev⟩ : ∃ y : Int32, y = i + Int32.ofInt (7) := ⟨_, rfl⟩
    refine lv_iinc (v := v) (lv' := [(4, .int v), (0, .ref b), (1, .ref x0), (2, .ref m0), (3, .ref o0)]) hx hb dL_law_1797 hl (k := 4) rfl ev.symm (by decide) rfl (fun ls hl => ?_)
    have iv : v.toInt = i.toInt + 7 := zaddI ev (by decide) (by omega) (by omega)
    refine lv_goto (tgt := 23) hx hb dL_law_1800 (by decide) ?_
    refine W.widen (k := 62 + 3 * (t + 1)) (n := 13545 + 300 * (t + 1)) (by omega) (by omega) ?_
    exact ih (t + 1) sg C Rr fo v H locs ls (by omega) (by omega) hO hC hR hP hD hS (lv_sub hl [1, 2, 3, 4, 0] rfl)
set_option maxHeartbeats 8000000 in
set_option maxRecDepth 100000 in
/-- THE LAW, from its entry -/
theorem whole_start {p : Program} {e : Env} {s : State} {m : MethodId} {below : List Frame} {meth : Method} {c : Code} (l : Launch) (hl0 : l.stackTraces = false) {b L : Nat} {xs : Nat → Int32} (hL : L ≤ 3584) (C0 : lw_At p s m meth c b L xs) : W p l e room_1 s m #[Value.ref b] below meth c s.heap [] 0 0 (lw_Z below #[Value.ref b] s) (entryFrame m ([Value.ref b] : List Value).toArray 7) := by
  obtain ⟨hx, hb, hr, hml, hown, hts0, hX, hbl, hlocks, hgv⟩ := id C0
  have hts : ∀ w ∈ wA, w.before #[Value.ref b] s = true := fun w h => hts0 w (List.mem_filter.mp h).1
  have hown : s.vm.findClass RL = some m.cls := hown
  have hA : ∀ q : Nat, s.heap.size ≤ q → (fun q : Nat => s.heap.size ≤ q) q := fun _ h => h
  obtain ⟨k0, i0, hKn0⟩ := u_known (C := RX0) (T := TX0) (N := 3) (n := 3) hts iX0 (hts _ qw263)
  obtain ⟨k1, i1, hKn1⟩ := u_known (C := RX1) (T := TX1) (N := 5) (n := 5) hts iX1 (hts _ qw181)
  obtain ⟨k2, i2, hKn2⟩ := u_known (C := RX2) (T := TX2) (N := 3) (n := 3) hts iX2 (hts _ qw149)
  obtain ⟨k3, i3, hKn3⟩ := u_known (C := RX3) (T := TX3) (N := 1) (n := 1) hts iX3 (hts _ qw347)
  obtain ⟨k4, i4, hKn4⟩ := u_known (C := RX4) (T := TX4) (N := 1) (n := 1) hts iX4 (hts _ qw557)
  obtain ⟨k5, i5, hKn5⟩ := u_known (C := RX5) (T := TX5) (N := 3) (n := 3) hts iX5 (hts _ qw165)
  obtain ⟨k6, i6, hKn6⟩ := u_known (C := RX6) (T := TX6) (N := 9) (n := 9) hts iX6 (hts _ qw311)
  obtain ⟨k7, i7, hKn7⟩ := u_known (C := RX7) (T := TX7) (N := 9) (n := 9) hts iX7 (hts _ qw215)
  obtain ⟨k8, i8, hKn8⟩ := u_known (C := RX8) (T := TX8) (N := 7) (n := 7) hts iX8 (hts _ qw280)
  obtain ⟨k9, i9, hKn9⟩ := u_known (C := RX9) (T := TX9) (N := 3) (n := 3) hts iX9 (hts _ qw127)
  obtain ⟨k10, i10, hKn10⟩ := u_known (C := RX10) (T := TX10) (N := 17) (n := 17) hts iX10 (hts _ qw119)
  obtain ⟨k11, i11, hKn11⟩ := u_known (C := RX11) (T := TX11) (N := 41) (n := 41) hts iX11 (hts _ qw1122)
  obtain ⟨dC, dI, hKc⟩ : ∃ (dC : Nat → ClassId) (dI : Nat → Nat → Nat), ∀ (k : Nat) (q : vw_C), vwCl[k]? = some q → u_Kn s q.1 q.2.1 q.2.2 (dC k) (dI k) := by
    refine ⟨fun k => [k0, k1, k2, k3, k4, k5, k6, k7, k8, k9, k10, k11].getD k k0, fun k => [i0, i1, i2, i3, i4, i5, i6, i7, i8, i9, i10, i11].getD k i0, ?_⟩
    intro k q hq
    match k, hq with
    | 0, hq => cases hq; exact hKn0
    | 1, hq => cases hq; exact hKn1
    | 2, hq => cases hq; exact hKn2
    | 3, hq => cases hq; exact hKn3
    | 4, hq => cases hq; exact hKn4
    | 5, hq => cases hq; exact hKn5
    | 6, hq => cases hq; exact hKn6
    | 7, hq => cases hq; exact hKn7
    | 8, hq => cases hq; exact hKn8
    | 9, hq => cases hq; exact hKn9
    | 10, hq => cases hq; exact hKn10
    | 11, hq => cases hq; exact hKn11
    | k + 12, hq => simp [vwCl] at hq
  obtain ⟨cI, hcI⟩ := zarr (by intro C h; cases h) (hts _ qw147)
  obtain ⟨cJ, hcJ⟩ := zarr (by intro C h; cases h) (hts _ qw345)
  obtain ⟨cQ, hcQ⟩ := zarrQ (C := "NinePortraits$Law") (hts0 _ (List.mem_of_getElem? (i := 213) (by decide +kernel)))
  have hK3 : va_K (dC, dI) vwCl [(cI, .int), (cJ, .long), (cQ, .object "NinePortraits$Law")] s := ⟨hKc, fun k q h => by
    match k, h with
    | 0, h => cases h; exact ⟨hcI.1, hcI.2⟩
    | 1, h => cases h; exact ⟨hcJ.1, hcJ.2⟩
    | 2, h => cases h; exact ⟨hcQ.1, hcQ.2⟩
    | k + 3, h => simp at h⟩
  have hK : va_K (dC, dI) vwCl [(cI, .int), (cJ, .long)] s := hK3.sub [0, 1] rfl
  have hE : zE s := zE_law hts0
  have hG : zG (fun q : Nat => s.heap.size ≤ q) s := zG_law hts0 hgv
  have hV : zV (fun q : Nat => s.heap.size ≤ q) s := zV_law hts0 hgv
  have hCa : zCa s := zCa_law hts0
  have hP : va_P (dC, dI) vwCl [] s.heap := zP0
  have hD : va_D (fun q : Nat => s.heap.size ≤ q) [] := zD0
  have hl := lv_entry ([.ref b]) (n := 7) (Nat.le_of_ble_eq_true rfl)
  rw [lg_entry_eq]
  generalize (lg_sl ([.ref b]) ++ List.replicate (7 - (lg_sl ([.ref b])).length) Slot.unset).toArray = ls at hl ⊢
  have hl : lv_has ls 7 [(0, .ref b)] := hl
  refine zstart (fun H hH => ?_)
  rw [← hH] at hP
  have hS : va_S (fun q : Nat => s.heap.size ≤ q) s.heap H [] := by rw [hH]; exact va_S.rf
  refine va_new (ci := 10) (fs := [.null, .null, .null, .null, .null, .null, .null, .null, .null, .null, .null, .null, .null, .int 0, .int 0, .int 0, .int 0]) (C := RX10) (T := TX10) (N := 17) hx hb hts iX10 tyX10 tyX10_ok hown (hts _ qw118) (hts _ qw119) (hts _ qw98) hK hP hD hS hA rfl fsX10 (Nat.le_of_ble_eq_true rfl) (Nat.le_of_ble_eq_true rfl) dL_law_0 (fun x0 H hP hD hS => ?_)
  have hP : va_P (dC, dI) vwCl [(x0, .inr (10, [.null, .null, .null, .null, .null, .null, .null, .null, .null, .null, .null, .null, .null, .int 0, .int 0, .int 0, .int 0]))] H := hP
  have hD : va_D (fun q : Nat => s.heap.size ≤ q) [(x0, .inr (10, [.null, .null, .null, .null, .null, .null, .null, .null, .null, .null, .null, .null, .null, .int 0, .int 0, .int 0, .int 0]))] := hD
  refine W.widen (k := 1) (n := 17) (Nat.le_of_ble_eq_true rfl) (Nat.le_of_ble_eq_true rfl) ?_
  refine lv_dup hx hb dL_law_3 rfl ?_
  have hPc := hP.sub (ws' := [(x0, .inr (10, [.null, .null, .null, .null, .null, .null, .null, .null, .null, .null, .null, .null, .null, .int 0, .int 0, .int 0, .int 0]))]) [0] rfl
  have hDc := hD.sub (ws' := [(x0, .inr (10, [.null, .null, .null, .null, .null, .null, .null, .null, .null, .null, .null, .null, .null, .int 0, .int 0, .int 0, .int 0]))]) [0] (by decide) rfl
  have hFc := va_free (wc := [(x0, .inr (10, [.null, .null, .null, .null, .null, .null, .null, .null, .null, .null, .null, .null, .null, .int 0, .int 0, .int 0, .int 0]))]) hD hS hA [0] rfl
  refine va_callv (va_runI (As := []) (rest := [.ref x0]) ⟨hx, hb, hml, hown, hts⟩ (c_X10_init l dC dI cI cJ cQ x0 H.size) (cwI 0 hts (zgI qw122) rfl rfl rfl (hts _ qw98) (hts _ qw120) (hts _ qw121) rfl (hd_X10_init).2 ⟨Nat.le_of_ble_eq_true rfl, Nat.le_of_ble_eq_true rfl⟩) (zPES hPc hK3 hDc hE) rfl rfl hl.1 rfl (lv_room (Nat.le_of_ble_eq_true rfl)) dL_law_4 ⟨Nat.le_of_ble_eq_true rfl, Nat.le_of_ble_eq_true rfl⟩) hS (fun q _ h => hFc q h) hFc (fun u t H locs ht hvm hw hB hz1 hk1 hS => ?_)
  refine W.widen (k := 37) (n := 1673) (Nat.le_of_ble_eq_true rfl) (Nat.le_of_ble_eq_true rfl) ?_
  obtain ⟨xq1, xq3, xq4, xq6, xq8, xq9, xq11, xq12, xq13, xq14, xq16, xq17, xq18, xq19, xq20, xq22, xq23, xq24, xq25, xq27, xq28, xq29, xq30, xq32, xq33, xq35, xq36, xq37, xq38, xq39, xq41, xq42, xq43, xq44, xq45, xq47, hP1, hD1⟩ := hB
  rw [ht] at hP1
  obtain ⟨hP, hD⟩ := va_join (wr := []) (w1 := [(x0, .inr (10, [.ref xq1, .ref xq4, .ref xq6, .ref xq9, .ref xq14, .ref xq19, .ref xq20, .ref xq25, .ref xq30, .ref xq33, .ref xq39, .ref xq45, .ref xq47, .int 0, .int (-1), .int 0, .int 0])), (xq1, .inr (9, [.ref xq3, .int 0, .int 0])), (xq3, .inl (cI, 260, .inl (fun _ => 0))), (xq4, .inr (2, [.null, .null, .int 0])), (xq6, .inr (5, [.ref xq8, .int 0, .null])), (xq8, .inl (cI, 241, .inl (fun _ => 0))), (xq9, .inr (1, [.ref xq11, .ref xq12, .ref xq13, .int 0, .int 0])), (xq11, .inl (cI, 3, .inl (fun _ => 0))), (xq12, .inl (cI, 24, .inl (fun _ => 0))), (xq13, .inl (cI, 20, .inl (fun _ => 0))), (xq14, .inr (1, [.ref xq16, .ref xq17, .ref xq18, .int 0, .int 0])), (xq16, .inl (cI, 3, .inl (fun _ => 0))), (xq17, .inl (cI, 24, .inl (fun _ => 0))), (xq18, .inl (cI, 20, .inl (fun _ => 0))), (xq19, .inl (cQ, 4, .inr (.inr (.inr (.inr (fun _ => none)))))), (xq20, .inr (7, [.ref xq22, .ref xq23, .ref xq24, .int 0, .int 0, .int 0, .int (-1), .int 0, .int 0])), (xq22, .inl (cI, 6, .inl (fun _ => 0))), (xq23, .inl (cI, 5, .inl (fun _ => 0))), (xq24, .inl (cI, 80, .inl (fun _ => 0))), (xq25, .inr (7, [.ref xq27, .ref xq28, .ref xq29, .int 0, .int 0, .int 0, .int (-1), .int 0, .int 0])), (xq27, .inl (cI, 6, .inl (fun _ => 0))), (xq28, .inl (cI, 5, .inl (fun _ => 0))), (xq29, .inl (cI, 80, .inl (fun _ => 0))), (xq30, .inr (0, [.ref xq32, .int 0, .int 0])), (xq32, .inl (cI, 680, .inl (fun _ => 0))), (xq33, .inr (8, [.ref xq35, .ref xq36, .ref xq14, .ref xq20, .ref xq37, .ref xq38, .null])), (xq35, .inl (cI, 10, .inl (fun _ => 0))), (xq36, .inl (cI, 10, .inl (fun _ => 0))), (xq37, .inl (cI, 6, .inl (fun _ => 0))), (xq38, .inl (cI, 32, .inl (fun _ => 0))), (xq39, .inr (6, [.ref xq14, .ref xq20, .ref xq33, .ref xq41, .long 0, .int 0, .ref xq42, .ref xq43, .ref xq44])), (xq41, .inl (cJ, 10, .inr (.inl (fun _ => 0)))), (xq42, .inl (cI, 10, .inl (fun _ => 0))), (xq43, .inl (cI, 10, .inl (fun _ => 0))), (xq44, .inl (cI, 45, .inl (fun _ => 0))), (xq45, .inr (3, [.long 0])), (xq47, .inl (cI, 5, .inl (fun _ => 0)))]) hP hD [0] [] rfl rfl (by decide) (by decide) hk1 hFc hP1 hD1
  have hP : va_P (dC, dI) vwCl [(x0, .inr (10, [.ref xq1, .ref xq4, .ref xq6, .ref xq9, .ref xq14, .ref xq19, .ref xq20, .ref xq25, .ref xq30, .ref xq33, .ref xq39, .ref xq45, .ref xq47, .int 0, .int (-1), .int 0, .int 0])), (xq1, .inr (9, [.ref xq3, .int 0, .int 0])), (xq3, .inl (cI, 260, .inl (fun _ => 0))), (xq4, .inr (2, [.null, .null, .int 0])), (xq6, .inr (5, [.ref xq8, .int 0, .null])), (xq8, .inl (cI, 241, .inl (fun _ => 0))), (xq9, .inr (1, [.ref xq11, .ref xq12, .ref xq13, .int 0, .int 0])), (xq11, .inl (cI, 3, .inl (fun _ => 0))), (xq12, .inl (cI, 24, .inl (fun _ => 0))), (xq13, .inl (cI, 20, .inl (fun _ => 0))), (xq14, .inr (1, [.ref xq16, .ref xq17, .ref xq18, .int 0, .int 0])), (xq16, .inl (cI, 3, .inl (fun _ => 0))), (xq17, .inl (cI, 24, .inl (fun _ => 0))), (xq18, .inl (cI, 20, .inl (fun _ => 0))), (xq19, .inl (cQ, 4, .inr (.inr (.inr (.inr (fun _ => none)))))), (xq20, .inr (7, [.ref xq22, .ref xq23, .ref xq24, .int 0, .int 0, .int 0, .int (-1), .int 0, .int 0])), (xq22, .inl (cI, 6, .inl (fun _ => 0))), (xq23, .inl (cI, 5, .inl (fun _ => 0))), (xq24, .inl (cI, 80, .inl (fun _ => 0))), (xq25, .inr (7, [.ref xq27, .ref xq28, .ref xq29, .int 0, .int 0, .int 0, .int (-1), .int 0, .int 0])), (xq27, .inl (cI, 6, .inl (fun _ => 0))), (xq28, .inl (cI, 5, .inl (fun _ => 0))), (xq29, .inl (cI, 80, .inl (fun _ => 0))), (xq30, .inr (0, [.ref xq32, .int 0, .int 0])), (xq32, .inl (cI, 680, .inl (fun _ => 0))), (xq33, .inr (8, [.ref xq35, .ref xq36, .ref xq14, .ref xq20, .ref xq37, .ref xq38, .null])), (xq35, .inl (cI, 10, .inl (fun _ => 0))), (xq36, .inl (cI, 10, .inl (fun _ => 0))), (xq37, .inl (cI, 6, .inl (fun _ => 0))), (xq38, .inl (cI, 32, .inl (fun _ => 0))), (xq39, .inr (6, [.ref xq14, .ref xq20, .ref xq33, .ref xq41, .long 0, .int 0, .ref xq42, .ref xq43, .ref xq44])), (xq41, .inl (cJ, 10, .inr (.inl (fun _ => 0)))), (xq42, .inl (cI, 10, .inl (fun _ => 0))), (xq43, .inl (cI, 10, .inl (fun _ => 0))), (xq44, .inl (cI, 45, .inl (fun _ => 0))), (xq45, .inr (3, [.long 0])), (xq47, .inl (cI, 5, .inl (fun _ => 0)))] H := hP
  have hD : va_D (fun q : Nat => s.heap.size ≤ q) [(x0, .inr (10, [.ref xq1, .ref xq4, .ref xq6, .ref xq9, .ref xq14, .ref xq19, .ref xq20, .ref xq25, .ref xq30, .ref xq33, .ref xq39, .ref xq45, .ref xq47, .int 0, .int (-1), .int 0, .int 0])), (xq1, .inr (9, [.ref xq3, .int 0, .int 0])), (xq3, .inl (cI, 260, .inl (fun _ => 0))), (xq4, .inr (2, [.null, .null, .int 0])), (xq6, .inr (5, [.ref xq8, .int 0, .null])), (xq8, .inl (cI, 241, .inl (fun _ => 0))), (xq9, .inr (1, [.ref xq11, .ref xq12, .ref xq13, .int 0, .int 0])), (xq11, .inl (cI, 3, .inl (fun _ => 0))), (xq12, .inl (cI, 24, .inl (fun _ => 0))), (xq13, .inl (cI, 20, .inl (fun _ => 0))), (xq14, .inr (1, [.ref xq16, .ref xq17, .ref xq18, .int 0, .int 0])), (xq16, .inl (cI, 3, .inl (fun _ => 0))), (xq17, .inl (cI, 24, .inl (fun _ => 0))), (xq18, .inl (cI, 20, .inl (fun _ => 0))), (xq19, .inl (cQ, 4, .inr (.inr (.inr (.inr (fun _ => none)))))), (xq20, .inr (7, [.ref xq22, .ref xq23, .ref xq24, .int 0, .int 0, .int 0, .int (-1), .int 0, .int 0])), (xq22, .inl (cI, 6, .inl (fun _ => 0))), (xq23, .inl (cI, 5, .inl (fun _ => 0))), (xq24, .inl (cI, 80, .inl (fun _ => 0))), (xq25, .inr (7, [.ref xq27, .ref xq28, .ref xq29, .int 0, .int 0, .int 0, .int (-1), .int 0, .int 0])), (xq27, .inl (cI, 6, .inl (fun _ => 0))), (xq28, .inl (cI, 5, .inl (fun _ => 0))), (xq29, .inl (cI, 80, .inl (fun _ => 0))), (xq30, .inr (0, [.ref xq32, .int 0, .int 0])), (xq32, .inl (cI, 680, .inl (fun _ => 0))), (xq33, .inr (8, [.ref xq35, .ref xq36, .ref xq14, .ref xq20, .ref xq37, .ref xq38, .null])), (xq35, .inl (cI, 10, .inl (fun _ => 0))), (xq36, .inl (cI, 10, .inl (fun _ => 0))), (xq37, .inl (cI, 6, .inl (fun _ => 0))), (xq38, .inl (cI, 32, .inl (fun _ => 0))), (xq39, .inr (6, [.ref xq14, .ref xq20, .ref xq33, .ref xq41, .long 0, .int 0, .ref xq42, .ref xq43, .ref xq44])), (xq41, .inl (cJ, 10, .inr (.inl (fun _ => 0)))), (xq42, .inl (cI, 10, .inl (fun _ => 0))), (xq43, .inl (cI, 10, .inl (fun _ => 0))), (xq44, .inl (cI, 45, .inl (fun _ => 0))), (xq45, .inr (3, [.long 0])), (xq47, .inl (cI, 5, .inl (fun _ => 0)))] := hD
  refine lv_astore_n (lv' := [(1, .ref x0), (0, .ref b)]) hx hb dL_law_7 rfl hl (by decide) rfl (fun ls hl => ?_)
  refine va_new (ci := 11) (fs := [.int 0, .null, .int 0, .int 0, .int 0, .int 0, .null, .null, .null, .null, .null, .null, .null, .int 0, .int 0, .null, .null, .null, .null, .null, .int 0, .int 0, .null, .null, .null, .int 0, .int 0, .null, .null, .int 0, .int 0, .null, .int 0, .long 0, .null, .int 0, .int 0, .null, .null, .null, .int 0]) (C := RX11) (T := TX11) (N := 41) hx hb hts iX11 tyX11 tyX11_ok hown (hts _ qw1121) (hts _ qw1122) (hts _ qw108) hK hP hD hS hA rfl fsX11 (Nat.le_of_ble_eq_true rfl) (Nat.le_of_ble_eq_true rfl) dL_law_8 (fun m0 H hP hD hS => ?_)
  have hP : va_P (dC, dI) vwCl [(x0, .inr (10, [.ref xq1, .ref xq4, .ref xq6, .ref xq9, .ref xq14, .ref xq19, .ref xq20, .ref xq25, .ref xq30, .ref xq33, .ref xq39, .ref xq45, .ref xq47, .int 0, .int (-1), .int 0, .int 0])), (xq1, .inr (9, [.ref xq3, .int 0, .int 0])), (xq3, .inl (cI, 260, .inl (fun _ => 0))), (xq4, .inr (2, [.null, .null, .int 0])), (xq6, .inr (5, [.ref xq8, .int 0, .null])), (xq8, .inl (cI, 241, .inl (fun _ => 0))), (xq9, .inr (1, [.ref xq11, .ref xq12, .ref xq13, .int 0, .int 0])), (xq11, .inl (cI, 3, .inl (fun _ => 0))), (xq12, .inl (cI, 24, .inl (fun _ => 0))), (xq13, .inl (cI, 20, .inl (fun _ => 0))), (xq14, .inr (1, [.ref xq16, .ref xq17, .ref xq18, .int 0, .int 0])), (xq16, .inl (cI, 3, .inl (fun _ => 0))), (xq17, .inl (cI, 24, .inl (fun _ => 0))), (xq18, .inl (cI, 20, .inl (fun _ => 0))), (xq19, .inl (cQ, 4, .inr (.inr (.inr (.inr (fun _ => none)))))), (xq20, .inr (7, [.ref xq22, .ref xq23, .ref xq24, .int 0, .int 0, .int 0, .int (-1), .int 0, .int 0])), (xq22, .inl (cI, 6, .inl (fun _ => 0))), (xq23, .inl (cI, 5, .inl (fun _ => 0))), (xq24, .inl (cI, 80, .inl (fun _ => 0))), (xq25, .inr (7, [.ref xq27, .ref xq28, .ref xq29, .int 0, .int 0, .int 0, .int (-1), .int 0, .int 0])), (xq27, .inl (cI, 6, .inl (fun _ => 0))), (xq28, .inl (cI, 5, .inl (fun _ => 0))), (xq29, .inl (cI, 80, .inl (fun _ => 0))), (xq30, .inr (0, [.ref xq32, .int 0, .int 0])), (xq32, .inl (cI, 680, .inl (fun _ => 0))), (xq33, .inr (8, [.ref xq35, .ref xq36, .ref xq14, .ref xq20, .ref xq37, .ref xq38, .null])), (xq35, .inl (cI, 10, .inl (fun _ => 0))), (xq36, .inl (cI, 10, .inl (fun _ => 0))), (xq37, .inl (cI, 6, .inl (fun _ => 0))), (xq38, .inl (cI, 32, .inl (fun _ => 0))), (xq39, .inr (6, [.ref xq14, .ref xq20, .ref xq33, .ref xq41, .long 0, .int 0, .ref xq42, .ref xq43, .ref xq44])), (xq41, .inl (cJ, 10, .inr (.inl (fun _ => 0)))), (xq42, .inl (cI, 10, .inl (fun _ => 0))), (xq43, .inl (cI, 10, .inl (fun _ => 0))), (xq44, .inl (cI, 45, .inl (fun _ => 0))), (xq45, .inr (3, [.long 0])), (xq47, .inl (cI, 5, .inl (fun _ => 0))), (m0, .inr (11, [.int 0, .null, .int 0, .int 0, .int 0, .int 0, .null, .null, .null, .null, .null, .null, .null, .int 0, .int 0, .null, .null, .null, .null, .null, .int 0, .int 0, .null, .null, .null, .int 0, .int 0, .null, .null, .int 0, .int 0, .null, .int 0, .long 0, .null, .int 0, .int 0, .null, .null, .null, .int 0]))] H := hP
  have hD : va_D (fun q : Nat => s.heap.size ≤ q) [(x0, .inr (10, [.ref xq1, .ref xq4, .ref xq6, .ref xq9, .ref xq14, .ref xq19, .ref xq20, .ref xq25, .ref xq30, .ref xq33, .ref xq39, .ref xq45, .ref xq47, .int 0, .int (-1), .int 0, .int 0])), (xq1, .inr (9, [.ref xq3, .int 0, .int 0])), (xq3, .inl (cI, 260, .inl (fun _ => 0))), (xq4, .inr (2, [.null, .null, .int 0])), (xq6, .inr (5, [.ref xq8, .int 0, .null])), (xq8, .inl (cI, 241, .inl (fun _ => 0))), (xq9, .inr (1, [.ref xq11, .ref xq12, .ref xq13, .int 0, .int 0])), (xq11, .inl (cI, 3, .inl (fun _ => 0))), (xq12, .inl (cI, 24, .inl (fun _ => 0))), (xq13, .inl (cI, 20, .inl (fun _ => 0))), (xq14, .inr (1, [.ref xq16, .ref xq17, .ref xq18, .int 0, .int 0])), (xq16, .inl (cI, 3, .inl (fun _ => 0))), (xq17, .inl (cI, 24, .inl (fun _ => 0))), (xq18, .inl (cI, 20, .inl (fun _ => 0))), (xq19, .inl (cQ, 4, .inr (.inr (.inr (.inr (fun _ => none)))))), (xq20, .inr (7, [.ref xq22, .ref xq23, .ref xq24, .int 0, .int 0, .int 0, .int (-1), .int 0, .int 0])), (xq22, .inl (cI, 6, .inl (fun _ => 0))), (xq23, .inl (cI, 5, .inl (fun _ => 0))), (xq24, .inl (cI, 80, .inl (fun _ => 0))), (xq25, .inr (7, [.ref xq27, .ref xq28, .ref xq29, .int 0, .int 0, .int 0, .int (-1), .int 0, .int 0])), (xq27, .inl (cI, 6, .inl (fun _ => 0))), (xq28, .inl (cI, 5, .inl (fun _ => 0))), (xq29, .inl (cI, 80, .inl (fun _ => 0))), (xq30, .inr (0, [.ref xq32, .int 0, .int 0])), (xq32, .inl (cI, 680, .inl (fun _ => 0))), (xq33, .inr (8, [.ref xq35, .ref xq36, .ref xq14, .ref xq20, .ref xq37, .ref xq38, .null])), (xq35, .inl (cI, 10, .inl (fun _ => 0))), (xq36, .inl (cI, 10, .inl (fun _ => 0))), (xq37, .inl (cI, 6, .inl (fun _ => 0))), (xq38, .inl (cI, 32, .inl (fun _ => 0))), (xq39, .inr (6, [.ref xq14, .ref xq20, .ref xq33, .ref xq41, .long 0, .int 0, .ref xq42, .ref xq43, .ref xq44])), (xq41, .inl (cJ, 10, .inr (.inl (fun _ => 0)))), (xq42, .inl (cI, 10, .inl (fun _ => 0))), (xq43, .inl (cI, 10, .inl (fun _ => 0))), (xq44, .inl (cI, 45, .inl (fun _ => 0))), (xq45, .inr (3, [.long 0])), (xq47, .inl (cI, 5, .inl (fun _ => 0))), (m0, .inr (11, [.int 0, .null, .int 0, .int 0, .int 0, .int 0, .null, .null, .null, .null, .null, .null, .null, .int 0, .int 0, .null, .null, .null, .null, .null, .int 0, .int 0, .null, .null, .null, .int 0, .int 0, .null, .null, .int 0, .int 0, .null, .int 0, .long 0, .null, .int 0, .int 0, .null, .null, .null, .int 0]))] := hD
  refine W.widen (k := 38) (n := 1714) (Nat.le_of_ble_eq_true rfl) (Nat.le_of_ble_eq_true rfl) ?_
  refine lv_dup hx hb dL_law_11 rfl ?_
  have hPc := hP.sub (ws' := [(m0, .inr (11, [.int 0, .null, .int 0, .int 0, .int 0, .int 0, .null, .null, .null, .null, .null, .null, .null, .int 0, .int 0, .null, .null, .null, .null, .null, .int 0, .int 0, .null, .null, .null, .int 0, .int 0, .null, .null, .int 0, .int 0, .null, .int 0, .long 0, .null, .int 0, .int 0, .null, .null, .null, .int 0]))]) [37] rfl
  have hDc := hD.sub (ws' := [(m0, .inr (11, [.int 0, .null, .int 0, .int 0, .int 0, .int 0, .null, .null, .null, .null, .null, .null, .null, .int 0, .int 0, .null, .null, .null, .null, .null, .int 0, .int 0, .null, .null, .null, .int 0, .int 0, .null, .null, .int 0, .int 0, .null, .int 0, .long 0, .null, .int 0, .int 0, .null, .null, .null, .int 0]))]) [37] (by decide) rfl
  have hFc := va_free (wc := [(m0, .inr (11, [.int 0, .null, .int 0, .int 0, .int 0, .int 0, .null, .null, .null, .null, .null, .null, .null, .int 0, .int 0, .null, .null, .null, .null, .null, .int 0, .int 0, .null, .null, .null, .int 0, .int 0, .null, .null, .int 0, .int 0, .null, .int 0, .long 0, .null, .int 0, .int 0, .null, .null, .null, .int 0]))]) hD hS hA [37] rfl
  refine va_callv (va_runI (As := []) (rest := [.ref m0]) ⟨hx, hb, hml, hown, hts⟩ (c_X11_init l dC dI cI cJ m0 H.size) (cwI 0 hts (zgI qw1125) rfl rfl rfl (hts _ qw108) (hts _ qw1123) (hts _ qw1124) rfl (hd_X11_init).2 ⟨Nat.le_of_ble_eq_true rfl, Nat.le_of_ble_eq_true rfl⟩) (zPS hPc hK hDc) rfl rfl hl.1 rfl (lv_room (Nat.le_of_ble_eq_true rfl)) dL_law_12 ⟨Nat.le_of_ble_eq_true rfl, Nat.le_of_ble_eq_true rfl⟩) hS (fun q _ h => hFc q h) hFc (fun u t H locs ht hvm hw hB hz1 hk1 hS => ?_)
  refine W.widen (k := 61) (n := 13544) (Nat.le_of_ble_eq_true rfl) (Nat.le_of_ble_eq_true rfl) ?_
  obtain ⟨mq1, mq2, mq3, mq4, mq5, mq6, mq7, mq8, mq9, mq10, mq11, mq12, mq13, mq14, mq15, mq16, mq17, mq18, mq19, mq20, mq21, mq22, mq23, hP1, hD1⟩ := hB
  rw [ht] at hP1
  obtain ⟨hP, hD⟩ := va_join (wr := [(x0, .inr (10, [.ref xq1, .ref xq4, .ref xq6, .ref xq9, .ref xq14, .ref xq19, .ref xq20, .ref xq25, .ref xq30, .ref xq33, .ref xq39, .ref xq45, .ref xq47, .int 0, .int (-1), .int 0, .int 0])), (xq1, .inr (9, [.ref xq3, .int 0, .int 0])), (xq3, .inl (cI, 260, .inl (fun _ => 0))), (xq4, .inr (2, [.null, .null, .int 0])), (xq6, .inr (5, [.ref xq8, .int 0, .null])), (xq8, .inl (cI, 241, .inl (fun _ => 0))), (xq9, .inr (1, [.ref xq11, .ref xq12, .ref xq13, .int 0, .int 0])), (xq11, .inl (cI, 3, .inl (fun _ => 0))), (xq12, .inl (cI, 24, .inl (fun _ => 0))), (xq13, .inl (cI, 20, .inl (fun _ => 0))), (xq14, .inr (1, [.ref xq16, .ref xq17, .ref xq18, .int 0, .int 0])), (xq16, .inl (cI, 3, .inl (fun _ => 0))), (xq17, .inl (cI, 24, .inl (fun _ => 0))), (xq18, .inl (cI, 20, .inl (fun _ => 0))), (xq19, .inl (cQ, 4, .inr (.inr (.inr (.inr (fun _ => none)))))), (xq20, .inr (7, [.ref xq22, .ref xq23, .ref xq24, .int 0, .int 0, .int 0, .int (-1), .int 0, .int 0])), (xq22, .inl (cI, 6, .inl (fun _ => 0))), (xq23, .inl (cI, 5, .inl (fun _ => 0))), (xq24, .inl (cI, 80, .inl (fun _ => 0))), (xq25, .inr (7, [.ref xq27, .ref xq28, .ref xq29, .int 0, .int 0, .int 0, .int (-1), .int 0, .int 0])), (xq27, .inl (cI, 6, .inl (fun _ => 0))), (xq28, .inl (cI, 5, .inl (fun _ => 0))), (xq29, .inl (cI, 80, .inl (fun _ => 0))), (xq30, .inr (0, [.ref xq32, .int 0, .int 0])), (xq32, .inl (cI, 680, .inl (fun _ => 0))), (xq33, .inr (8, [.ref xq35, .ref xq36, .ref xq14, .ref xq20, .ref xq37, .ref xq38, .null])), (xq35, .inl (cI, 10, .inl (fun _ => 0))), (xq36, .inl (cI, 10, .inl (fun _ => 0))), (xq37, .inl (cI, 6, .inl (fun _ => 0))), (xq38, .inl (cI, 32, .inl (fun _ => 0))), (xq39, .inr (6, [.ref xq14, .ref xq20, .ref xq33, .ref xq41, .long 0, .int 0, .ref xq42, .ref xq43, .ref xq44])), (xq41, .inl (cJ, 10, .inr (.inl (fun _ => 0)))), (xq42, .inl (cI, 10, .inl (fun _ => 0))), (xq43, .inl (cI, 10, .inl (fun _ => 0))), (xq44, .inl (cI, 45, .inl (fun _ => 0))), (xq45, .inr (3, [.long 0])), (xq47, .inl (cI, 5, .inl (fun _ => 0)))]) (w1 := [(m0, .inr (11, [.int 0, .ref mq1, .int 0, .int 0, .int 0, .int 0, .ref mq2, .ref mq3, .ref mq4, .ref mq5, .ref mq6, .ref mq7, .ref mq8, .int 0, .int 0, .ref mq9, .ref mq10, .ref mq11, .ref mq12, .ref mq13, .int 0, .int 0, .ref mq14, .ref mq15, .ref mq16, .int 0, .int 0, .ref mq17, .ref mq18, .int (-1), .int 0, .ref mq19, .int 0, .long 0, .ref mq20, .int 0, .int 0, .ref mq21, .ref mq22, .ref mq23, .int 0])), (mq1, .inl (cI, 240, .inl (fun _ => 0))), (mq2, .inl (cI, 2600, .inl (fun _ => 0))), (mq3, .inl (cI, 2600, .inl (fun _ => 0))), (mq4, .inl (cI, 5, .inl (fun _ => 0))), (mq5, .inl (cI, 5, .inl (fun _ => 0))), (mq6, .inl (cI, 700, .inl (fun _ => 0))), (mq7, .inl (cI, 700, .inl (fun _ => 0))), (mq8, .inl (cI, 700, .inl (fun _ => 0))), (mq9, .inl (cI, 6, .inl (fun _ => 0))), (mq10, .inl (cI, 80, .inl (fun _ => 0))), (mq11, .inl (cI, 3, .inl (fun _ => 0))), (mq12, .inl (cI, 24, .inl (fun _ => 0))), (mq13, .inl (cI, 20, .inl (fun _ => 0))), (mq14, .inl (cI, 3, .inl (fun _ => 0))), (mq15, .inl (cI, 24, .inl (fun _ => 0))), (mq16, .inl (cI, 20, .inl (fun _ => 0))), (mq17, .inl (cI, 97, .inl (fun _ => 0))), (mq18, .inl (cI, 5, .inl (fun _ => 0))), (mq19, .inl (cI, 3880, .inl (fun _ => 0))), (mq20, .inl (cI, 10, .inl (fun _ => 0))), (mq21, .inl (cI, 6, .inl (fun _ => 0))), (mq22, .inl (cI, 5, .inl (fun _ => 0))), (mq23, .inl (cI, 97, .inl (fun _ => 0)))]) hP hD [37] [0, 1, 2, 3, 4, 5, 6, 7, 8, 9, 10, 11, 12, 13, 14, 15, 16, 17, 18, 19, 20, 21, 22, 23, 24, 25, 26, 27, 28, 29, 30, 31, 32, 33, 34, 35, 36] rfl rfl (by decide) (by decide) hk1 hFc hP1 hD1
  have hP : va_P (dC, dI) vwCl [(x0, .inr (10, [.ref xq1, .ref xq4, .ref xq6, .ref xq9, .ref xq14, .ref xq19, .ref xq20, .ref xq25, .ref xq30, .ref xq33, .ref xq39, .ref xq45, .ref xq47, .int 0, .int (-1), .int 0, .int 0])), (xq1, .inr (9, [.ref xq3, .int 0, .int 0])), (xq3, .inl (cI, 260, .inl (fun _ => 0))), (xq4, .inr (2, [.null, .null, .int 0])), (xq6, .inr (5, [.ref xq8, .int 0, .null])), (xq8, .inl (cI, 241, .inl (fun _ => 0))), (xq9, .inr (1, [.ref xq11, .ref xq12, .ref xq13, .int 0, .int 0])), (xq11, .inl (cI, 3, .inl (fun _ => 0))), (xq12, .inl (cI, 24, .inl (fun _ => 0))), (xq13, .inl (cI, 20, .inl (fun _ => 0))), (xq14, .inr (1, [.ref xq16, .ref xq17, .ref xq18, .int 0, .int 0])), (xq16, .inl (cI, 3, .inl (fun _ => 0))), (xq17, .inl (cI, 24, .inl (fun _ => 0))), (xq18, .inl (cI, 20, .inl (fun _ => 0))), (xq19, .inl (cQ, 4, .inr (.inr (.inr (.inr (fun _ => none)))))), (xq20, .inr (7, [.ref xq22, .ref xq23, .ref xq24, .int 0, .int 0, .int 0, .int (-1), .int 0, .int 0])), (xq22, .inl (cI, 6, .inl (fun _ => 0))), (xq23, .inl (cI, 5, .inl (fun _ => 0))), (xq24, .inl (cI, 80, .inl (fun _ => 0))), (xq25, .inr (7, [.ref xq27, .ref xq28, .ref xq29, .int 0, .int 0, .int 0, .int (-1), .int 0, .int 0])), (xq27, .inl (cI, 6, .inl (fun _ => 0))), (xq28, .inl (cI, 5, .inl (fun _ => 0))), (xq29, .inl (cI, 80, .inl (fun _ => 0))), (xq30, .inr (0, [.ref xq32, .int 0, .int 0])), (xq32, .inl (cI, 680, .inl (fun _ => 0))), (xq33, .inr (8, [.ref xq35, .ref xq36, .ref xq14, .ref xq20, .ref xq37, .ref xq38, .null])), (xq35, .inl (cI, 10, .inl (fun _ => 0))), (xq36, .inl (cI, 10, .inl (fun _ => 0))), (xq37, .inl (cI, 6, .inl (fun _ => 0))), (xq38, .inl (cI, 32, .inl (fun _ => 0))), (xq39, .inr (6, [.ref xq14, .ref xq20, .ref xq33, .ref xq41, .long 0, .int 0, .ref xq42, .ref xq43, .ref xq44])), (xq41, .inl (cJ, 10, .inr (.inl (fun _ => 0)))), (xq42, .inl (cI, 10, .inl (fun _ => 0))), (xq43, .inl (cI, 10, .inl (fun _ => 0))), (xq44, .inl (cI, 45, .inl (fun _ => 0))), (xq45, .inr (3, [.long 0])), (xq47, .inl (cI, 5, .inl (fun _ => 0))), (m0, .inr (11, [.int 0, .ref mq1, .int 0, .int 0, .int 0, .int 0, .ref mq2, .ref mq3, .ref mq4, .ref mq5, .ref mq6, .ref mq7, .ref mq8, .int 0, .int 0, .ref mq9, .ref mq10, .ref mq11, .ref mq12, .ref mq13, .int 0, .int 0, .ref mq14, .ref mq15, .ref mq16, .int 0, .int 0, .ref mq17, .ref mq18, .int (-1), .int 0, .ref mq19, .int 0, .long 0, .ref mq20, .int 0, .int 0, .ref mq21, .ref mq22, .ref mq23, .int 0])), (mq1, .inl (cI, 240, .inl (fun _ => 0))), (mq2, .inl (cI, 2600, .inl (fun _ => 0))), (mq3, .inl (cI, 2600, .inl (fun _ => 0))), (mq4, .inl (cI, 5, .inl (fun _ => 0))), (mq5, .inl (cI, 5, .inl (fun _ => 0))), (mq6, .inl (cI, 700, .inl (fun _ => 0))), (mq7, .inl (cI, 700, .inl (fun _ => 0))), (mq8, .inl (cI, 700, .inl (fun _ => 0))), (mq9, .inl (cI, 6, .inl (fun _ => 0))), (mq10, .inl (cI, 80, .inl (fun _ => 0))), (mq11, .inl (cI, 3, .inl (fun _ => 0))), (mq12, .inl (cI, 24, .inl (fun _ => 0))), (mq13, .inl (cI, 20, .inl (fun _ => 0))), (mq14, .inl (cI, 3, .inl (fun _ => 0))), (mq15, .inl (cI, 24, .inl (fun _ => 0))), (mq16, .inl (cI, 20, .inl (fun _ => 0))), (mq17, .inl (cI, 97, .inl (fun _ => 0))), (mq18, .inl (cI, 5, .inl (fun _ => 0))), (mq19, .inl (cI, 3880, .inl (fun _ => 0))), (mq20, .inl (cI, 10, .inl (fun _ => 0))), (mq21, .inl (cI, 6, .inl (fun _ => 0))), (mq22, .inl (cI, 5, .inl (fun _ => 0))), (mq23, .inl (cI, 97, .inl (fun _ => 0)))] H := hP
  have hD : va_D (fun q : Nat => s.heap.size ≤ q) [(x0, .inr (10, [.ref xq1, .ref xq4, .ref xq6, .ref xq9, .ref xq14, .ref xq19, .ref xq20, .ref xq25, .ref xq30, .ref xq33, .ref xq39, .ref xq45, .ref xq47, .int 0, .int (-1), .int 0, .int 0])), (xq1, .inr (9, [.ref xq3, .int 0, .int 0])), (xq3, .inl (cI, 260, .inl (fun _ => 0))), (xq4, .inr (2, [.null, .null, .int 0])), (xq6, .inr (5, [.ref xq8, .int 0, .null])), (xq8, .inl (cI, 241, .inl (fun _ => 0))), (xq9, .inr (1, [.ref xq11, .ref xq12, .ref xq13, .int 0, .int 0])), (xq11, .inl (cI, 3, .inl (fun _ => 0))), (xq12, .inl (cI, 24, .inl (fun _ => 0))), (xq13, .inl (cI, 20, .inl (fun _ => 0))), (xq14, .inr (1, [.ref xq16, .ref xq17, .ref xq18, .int 0, .int 0])), (xq16, .inl (cI, 3, .inl (fun _ => 0))), (xq17, .inl (cI, 24, .inl (fun _ => 0))), (xq18, .inl (cI, 20, .inl (fun _ => 0))), (xq19, .inl (cQ, 4, .inr (.inr (.inr (.inr (fun _ => none)))))), (xq20, .inr (7, [.ref xq22, .ref xq23, .ref xq24, .int 0, .int 0, .int 0, .int (-1), .int 0, .int 0])), (xq22, .inl (cI, 6, .inl (fun _ => 0))), (xq23, .inl (cI, 5, .inl (fun _ => 0))), (xq24, .inl (cI, 80, .inl (fun _ => 0))), (xq25, .inr (7, [.ref xq27, .ref xq28, .ref xq29, .int 0, .int 0, .int 0, .int (-1), .int 0, .int 0])), (xq27, .inl (cI, 6, .inl (fun _ => 0))), (xq28, .inl (cI, 5, .inl (fun _ => 0))), (xq29, .inl (cI, 80, .inl (fun _ => 0))), (xq30, .inr (0, [.ref xq32, .int 0, .int 0])), (xq32, .inl (cI, 680, .inl (fun _ => 0))), (xq33, .inr (8, [.ref xq35, .ref xq36, .ref xq14, .ref xq20, .ref xq37, .ref xq38, .null])), (xq35, .inl (cI, 10, .inl (fun _ => 0))), (xq36, .inl (cI, 10, .inl (fun _ => 0))), (xq37, .inl (cI, 6, .inl (fun _ => 0))), (xq38, .inl (cI, 32, .inl (fun _ => 0))), (xq39, .inr (6, [.ref xq14, .ref xq20, .ref xq33, .ref xq41, .long 0, .int 0, .ref xq42, .ref xq43, .ref xq44])), (xq41, .inl (cJ, 10, .inr (.inl (fun _ => 0)))), (xq42, .inl (cI, 10, .inl (fun _ => 0))), (xq43, .inl (cI, 10, .inl (fun _ => 0))), (xq44, .inl (cI, 45, .inl (fun _ => 0))), (xq45, .inr (3, [.long 0])), (xq47, .inl (cI, 5, .inl (fun _ => 0))), (m0, .inr (11, [.int 0, .ref mq1, .int 0, .int 0, .int 0, .int 0, .ref mq2, .ref mq3, .ref mq4, .ref mq5, .ref mq6, .ref mq7, .ref mq8, .int 0, .int 0, .ref mq9, .ref mq10, .ref mq11, .ref mq12, .ref mq13, .int 0, .int 0, .ref mq14, .ref mq15, .ref mq16, .int 0, .int 0, .ref mq17, .ref mq18, .int (-1), .int 0, .ref mq19, .int 0, .long 0, .ref mq20, .int 0, .int 0, .ref mq21, .ref mq22, .ref mq23, .int 0])), (mq1, .inl (cI, 240, .inl (fun _ => 0))), (mq2, .inl (cI, 2600, .inl (fun _ => 0))), (mq3, .inl (cI, 2600, .inl (fun _ => 0))), (mq4, .inl (cI, 5, .inl (fun _ => 0))), (mq5, .inl (cI, 5, .inl (fun _ => 0))), (mq6, .inl (cI, 700, .inl (fun _ => 0))), (mq7, .inl (cI, 700, .inl (fun _ => 0))), (mq8, .inl (cI, 700, .inl (fun _ => 0))), (mq9, .inl (cI, 6, .inl (fun _ => 0))), (mq10, .inl (cI, 80, .inl (fun _ => 0))), (mq11, .inl (cI, 3, .inl (fun _ => 0))), (mq12, .inl (cI, 24, .inl (fun _ => 0))), (mq13, .inl (cI, 20, .inl (fun _ => 0))), (mq14, .inl (cI, 3, .inl (fun _ => 0))), (mq15, .inl (cI, 24, .inl (fun _ => 0))), (mq16, .inl (cI, 20, .inl (fun _ => 0))), (mq17, .inl (cI, 97, .inl (fun _ => 0))), (mq18, .inl (cI, 5, .inl (fun _ => 0))), (mq19, .inl (cI, 3880, .inl (fun _ => 0))), (mq20, .inl (cI, 10, .inl (fun _ => 0))), (mq21, .inl (cI, 6, .inl (fun _ => 0))), (mq22, .inl (cI, 5, .inl (fun _ => 0))), (mq23, .inl (cI, 97, .inl (fun _ => 0)))] := hD
  refine lv_astore_n (lv' := [(2, .ref m0), (1, .ref x0), (0, .ref b)]) hx hb dL_law_15 rfl hl (by decide) rfl (fun ls hl => ?_)
  refine lv_iconst (v := 1) hx hb dL_law_16 (by decide) ?_
  refine va_newa (atype := .long) (ty := .long) (N' := 1) (a0 := (1, .inr (.inl (fun _ => 0)))) hx hb (hts _ qw345) rfl hK hP hD hS hA (fun _ => rfl) (by decide) (by decide) (Nat.le_of_ble_eq_true rfl) (Nat.le_of_ble_eq_true rfl) (Nat.le_of_ble_eq_true rfl) dL_law_17 (fun o0 cA H hK2 hP hD hS => ?_)
  obtain rfl : cJ = cA := (zcA hK2 1 2 rfl rfl).symm
  have hP : va_P (dC, dI) vwCl [(x0, .inr (10, [.ref xq1, .ref xq4, .ref xq6, .ref xq9, .ref xq14, .ref xq19, .ref xq20, .ref xq25, .ref xq30, .ref xq33, .ref xq39, .ref xq45, .ref xq47, .int 0, .int (-1), .int 0, .int 0])), (xq1, .inr (9, [.ref xq3, .int 0, .int 0])), (xq3, .inl (cI, 260, .inl (fun _ => 0))), (xq4, .inr (2, [.null, .null, .int 0])), (xq6, .inr (5, [.ref xq8, .int 0, .null])), (xq8, .inl (cI, 241, .inl (fun _ => 0))), (xq9, .inr (1, [.ref xq11, .ref xq12, .ref xq13, .int 0, .int 0])), (xq11, .inl (cI, 3, .inl (fun _ => 0))), (xq12, .inl (cI, 24, .inl (fun _ => 0))), (xq13, .inl (cI, 20, .inl (fun _ => 0))), (xq14, .inr (1, [.ref xq16, .ref xq17, .ref xq18, .int 0, .int 0])), (xq16, .inl (cI, 3, .inl (fun _ => 0))), (xq17, .inl (cI, 24, .inl (fun _ => 0))), (xq18, .inl (cI, 20, .inl (fun _ => 0))), (xq19, .inl (cQ, 4, .inr (.inr (.inr (.inr (fun _ => none)))))), (xq20, .inr (7, [.ref xq22, .ref xq23, .ref xq24, .int 0, .int 0, .int 0, .int (-1), .int 0, .int 0])), (xq22, .inl (cI, 6, .inl (fun _ => 0))), (xq23, .inl (cI, 5, .inl (fun _ => 0))), (xq24, .inl (cI, 80, .inl (fun _ => 0))), (xq25, .inr (7, [.ref xq27, .ref xq28, .ref xq29, .int 0, .int 0, .int 0, .int (-1), .int 0, .int 0])), (xq27, .inl (cI, 6, .inl (fun _ => 0))), (xq28, .inl (cI, 5, .inl (fun _ => 0))), (xq29, .inl (cI, 80, .inl (fun _ => 0))), (xq30, .inr (0, [.ref xq32, .int 0, .int 0])), (xq32, .inl (cI, 680, .inl (fun _ => 0))), (xq33, .inr (8, [.ref xq35, .ref xq36, .ref xq14, .ref xq20, .ref xq37, .ref xq38, .null])), (xq35, .inl (cI, 10, .inl (fun _ => 0))), (xq36, .inl (cI, 10, .inl (fun _ => 0))), (xq37, .inl (cI, 6, .inl (fun _ => 0))), (xq38, .inl (cI, 32, .inl (fun _ => 0))), (xq39, .inr (6, [.ref xq14, .ref xq20, .ref xq33, .ref xq41, .long 0, .int 0, .ref xq42, .ref xq43, .ref xq44])), (xq41, .inl (cJ, 10, .inr (.inl (fun _ => 0)))), (xq42, .inl (cI, 10, .inl (fun _ => 0))), (xq43, .inl (cI, 10, .inl (fun _ => 0))), (xq44, .inl (cI, 45, .inl (fun _ => 0))), (xq45, .inr (3, [.long 0])), (xq47, .inl (cI, 5, .inl (fun _ => 0))), (m0, .inr (11, [.int 0, .ref mq1, .int 0, .int 0, .int 0, .int 0, .ref mq2, .ref mq3, .ref mq4, .ref mq5, .ref mq6, .ref mq7, .ref mq8, .int 0, .int 0, .ref mq9, .ref mq10, .ref mq11, .ref mq12, .ref mq13, .int 0, .int 0, .ref mq14, .ref mq15, .ref mq16, .int 0, .int 0, .ref mq17, .ref mq18, .int (-1), .int 0, .ref mq19, .int 0, .long 0, .ref mq20, .int 0, .int 0, .ref mq21, .ref mq22, .ref mq23, .int 0])), (mq1, .inl (cI, 240, .inl (fun _ => 0))), (mq2, .inl (cI, 2600, .inl (fun _ => 0))), (mq3, .inl (cI, 2600, .inl (fun _ => 0))), (mq4, .inl (cI, 5, .inl (fun _ => 0))), (mq5, .inl (cI, 5, .inl (fun _ => 0))), (mq6, .inl (cI, 700, .inl (fun _ => 0))), (mq7, .inl (cI, 700, .inl (fun _ => 0))), (mq8, .inl (cI, 700, .inl (fun _ => 0))), (mq9, .inl (cI, 6, .inl (fun _ => 0))), (mq10, .inl (cI, 80, .inl (fun _ => 0))), (mq11, .inl (cI, 3, .inl (fun _ => 0))), (mq12, .inl (cI, 24, .inl (fun _ => 0))), (mq13, .inl (cI, 20, .inl (fun _ => 0))), (mq14, .inl (cI, 3, .inl (fun _ => 0))), (mq15, .inl (cI, 24, .inl (fun _ => 0))), (mq16, .inl (cI, 20, .inl (fun _ => 0))), (mq17, .inl (cI, 97, .inl (fun _ => 0))), (mq18, .inl (cI, 5, .inl (fun _ => 0))), (mq19, .inl (cI, 3880, .inl (fun _ => 0))), (mq20, .inl (cI, 10, .inl (fun _ => 0))), (mq21, .inl (cI, 6, .inl (fun _ => 0))), (mq22, .inl (cI, 5, .inl (fun _ => 0))), (mq23, .inl (cI, 97, .inl (fun _ => 0))), (o0, .inl (cJ, 1, .inr (.inl (fun _ => 0))))] H := hP
  have hD : va_D (fun q : Nat => s.heap.size ≤ q) [(x0, .inr (10, [.ref xq1, .ref xq4, .ref xq6, .ref xq9, .ref xq14, .ref xq19, .ref xq20, .ref xq25, .ref xq30, .ref xq33, .ref xq39, .ref xq45, .ref xq47, .int 0, .int (-1), .int 0, .int 0])), (xq1, .inr (9, [.ref xq3, .int 0, .int 0])), (xq3, .inl (cI, 260, .inl (fun _ => 0))), (xq4, .inr (2, [.null, .null, .int 0])), (xq6, .inr (5, [.ref xq8, .int 0, .null])), (xq8, .inl (cI, 241, .inl (fun _ => 0))), (xq9, .inr (1, [.ref xq11, .ref xq12, .ref xq13, .int 0, .int 0])), (xq11, .inl (cI, 3, .inl (fun _ => 0))), (xq12, .inl (cI, 24, .inl (fun _ => 0))), (xq13, .inl (cI, 20, .inl (fun _ => 0))), (xq14, .inr (1, [.ref xq16, .ref xq17, .ref xq18, .int 0, .int 0])), (xq16, .inl (cI, 3, .inl (fun _ => 0))), (xq17, .inl (cI, 24, .inl (fun _ => 0))), (xq18, .inl (cI, 20, .inl (fun _ => 0))), (xq19, .inl (cQ, 4, .inr (.inr (.inr (.inr (fun _ => none)))))), (xq20, .inr (7, [.ref xq22, .ref xq23, .ref xq24, .int 0, .int 0, .int 0, .int (-1), .int 0, .int 0])), (xq22, .inl (cI, 6, .inl (fun _ => 0))), (xq23, .inl (cI, 5, .inl (fun _ => 0))), (xq24, .inl (cI, 80, .inl (fun _ => 0))), (xq25, .inr (7, [.ref xq27, .ref xq28, .ref xq29, .int 0, .int 0, .int 0, .int (-1), .int 0, .int 0])), (xq27, .inl (cI, 6, .inl (fun _ => 0))), (xq28, .inl (cI, 5, .inl (fun _ => 0))), (xq29, .inl (cI, 80, .inl (fun _ => 0))), (xq30, .inr (0, [.ref xq32, .int 0, .int 0])), (xq32, .inl (cI, 680, .inl (fun _ => 0))), (xq33, .inr (8, [.ref xq35, .ref xq36, .ref xq14, .ref xq20, .ref xq37, .ref xq38, .null])), (xq35, .inl (cI, 10, .inl (fun _ => 0))), (xq36, .inl (cI, 10, .inl (fun _ => 0))), (xq37, .inl (cI, 6, .inl (fun _ => 0))), (xq38, .inl (cI, 32, .inl (fun _ => 0))), (xq39, .inr (6, [.ref xq14, .ref xq20, .ref xq33, .ref xq41, .long 0, .int 0, .ref xq42, .ref xq43, .ref xq44])), (xq41, .inl (cJ, 10, .inr (.inl (fun _ => 0)))), (xq42, .inl (cI, 10, .inl (fun _ => 0))), (xq43, .inl (cI, 10, .inl (fun _ => 0))), (xq44, .inl (cI, 45, .inl (fun _ => 0))), (xq45, .inr (3, [.long 0])), (xq47, .inl (cI, 5, .inl (fun _ => 0))), (m0, .inr (11, [.int 0, .ref mq1, .int 0, .int 0, .int 0, .int 0, .ref mq2, .ref mq3, .ref mq4, .ref mq5, .ref mq6, .ref mq7, .ref mq8, .int 0, .int 0, .ref mq9, .ref mq10, .ref mq11, .ref mq12, .ref mq13, .int 0, .int 0, .ref mq14, .ref mq15, .ref mq16, .int 0, .int 0, .ref mq17, .ref mq18, .int (-1), .int 0, .ref mq19, .int 0, .long 0, .ref mq20, .int 0, .int 0, .ref mq21, .ref mq22, .ref mq23, .int 0])), (mq1, .inl (cI, 240, .inl (fun _ => 0))), (mq2, .inl (cI, 2600, .inl (fun _ => 0))), (mq3, .inl (cI, 2600, .inl (fun _ => 0))), (mq4, .inl (cI, 5, .inl (fun _ => 0))), (mq5, .inl (cI, 5, .inl (fun _ => 0))), (mq6, .inl (cI, 700, .inl (fun _ => 0))), (mq7, .inl (cI, 700, .inl (fun _ => 0))), (mq8, .inl (cI, 700, .inl (fun _ => 0))), (mq9, .inl (cI, 6, .inl (fun _ => 0))), (mq10, .inl (cI, 80, .inl (fun _ => 0))), (mq11, .inl (cI, 3, .inl (fun _ => 0))), (mq12, .inl (cI, 24, .inl (fun _ => 0))), (mq13, .inl (cI, 20, .inl (fun _ => 0))), (mq14, .inl (cI, 3, .inl (fun _ => 0))), (mq15, .inl (cI, 24, .inl (fun _ => 0))), (mq16, .inl (cI, 20, .inl (fun _ => 0))), (mq17, .inl (cI, 97, .inl (fun _ => 0))), (mq18, .inl (cI, 5, .inl (fun _ => 0))), (mq19, .inl (cI, 3880, .inl (fun _ => 0))), (mq20, .inl (cI, 10, .inl (fun _ => 0))), (mq21, .inl (cI, 6, .inl (fun _ => 0))), (mq22, .inl (cI, 5, .inl (fun _ => 0))), (mq23, .inl (cI, 97, .inl (fun _ => 0))), (o0, .inl (cJ, 1, .inr (.inl (fun _ => 0))))] := hD
  refine W.widen (k := 62) (n := 13545) (Nat.le_of_ble_eq_true rfl) (Nat.le_of_ble_eq_true rfl) ?_
  refine lv_astore_n (lv' := [(3, .ref o0), (2, .ref m0), (1, .ref x0), (0, .ref b)]) hx hb dL_law_19 rfl hl (by decide) rfl (fun ls hl => ?_)
  refine lv_iconst (v := 0) hx hb dL_law_20 (by decide) ?_
  refine lv_istore (lv' := [(4, .int 0), (3, .ref o0), (2, .ref m0), (1, .ref x0), (0, .ref b)]) hx hb dL_law_21 hl (by decide) rfl (fun ls hl => ?_)
  have hP : va_P (dC, dI) vwCl [(x0, .inr (10, [.ref xq1, .ref xq4, .ref xq6, .ref xq9, .ref xq14, .ref xq19, .ref xq20, .ref xq25, .ref xq30, .ref xq33, .ref xq39, .ref xq45, .ref xq47, .int 0, .int (-1), .int 0, .int 0])), (xq1, .inr (9, [.ref xq3, .int 0, .int 0])), (xq3, .inl (cI, 260, .inl (fun _ => 0))), (xq4, .inr (2, [.null, .null, .int 0])), (xq6, .inr (5, [.ref xq8, .int 0, .null])), (xq8, .inl (cI, 241, .inl (fun _ => 0))), (xq9, .inr (1, [.ref xq11, .ref xq12, .ref xq13, .int 0, .int 0])), (xq11, .inl (cI, 3, .inl (fun _ => 0))), (xq12, .inl (cI, 24, .inl (fun _ => 0))), (xq13, .inl (cI, 20, .inl (fun _ => 0))), (xq14, .inr (1, [.ref xq16, .ref xq17, .ref xq18, .int 0, .int 0])), (xq16, .inl (cI, 3, .inl (fun _ => 0))), (xq17, .inl (cI, 24, .inl (fun _ => 0))), (xq18, .inl (cI, 20, .inl (fun _ => 0))), (xq19, .inl (cQ, 4, .inr (.inr (.inr (.inr (fun _ => none)))))), (xq20, .inr (7, [.ref xq22, .ref xq23, .ref xq24, .int 0, .int 0, .int 0, .int (-1), .int 0, .int 0])), (xq22, .inl (cI, 6, .inl (fun _ => 0))), (xq23, .inl (cI, 5, .inl (fun _ => 0))), (xq24, .inl (cI, 80, .inl (fun _ => 0))), (xq25, .inr (7, [.ref xq27, .ref xq28, .ref xq29, .int 0, .int 0, .int 0, .int (-1), .int 0, .int 0])), (xq27, .inl (cI, 6, .inl (fun _ => 0))), (xq28, .inl (cI, 5, .inl (fun _ => 0))), (xq29, .inl (cI, 80, .inl (fun _ => 0))), (xq30, .inr (0, [.ref xq32, .int 0, .int 0])), (xq32, .inl (cI, 680, .inl (fun _ => 0))), (xq33, .inr (8, [.ref xq35, .ref xq36, .ref xq14, .ref xq20, .ref xq37, .ref xq38, .null])), (xq35, .inl (cI, 10, .inl (fun _ => 0))), (xq36, .inl (cI, 10, .inl (fun _ => 0))), (xq37, .inl (cI, 6, .inl (fun _ => 0))), (xq38, .inl (cI, 32, .inl (fun _ => 0))), (xq39, .inr (6, [.ref xq14, .ref xq20, .ref xq33, .ref xq41, .long 0, .int 0, .ref xq42, .ref xq43, .ref xq44])), (xq41, .inl (cJ, 10, .inr (.inl (fun _ => 0)))), (xq42, .inl (cI, 10, .inl (fun _ => 0))), (xq43, .inl (cI, 10, .inl (fun _ => 0))), (xq44, .inl (cI, 45, .inl (fun _ => 0))), (xq45, .inr (3, [.long 0])), (xq47, .inl (cI, 5, .inl (fun _ => 0))), (o0, .inl (cJ, 1, .inr (.inl (fun _ => 0)))), (m0, .inr (11, [.int 0, .ref mq1, .int 0, .int 0, .int 0, .int 0, .ref mq2, .ref mq3, .ref mq4, .ref mq5, .ref mq6, .ref mq7, .ref mq8, .int 0, .int 0, .ref mq9, .ref mq10, .ref mq11, .ref mq12, .ref mq13, .int 0, .int 0, .ref mq14, .ref mq15, .ref mq16, .int 0, .int 0, .ref mq17, .ref mq18, .int (-1), .int 0, .ref mq19, .int 0, .long 0, .ref mq20, .int 0, .int 0, .ref mq21, .ref mq22, .ref mq23, .int 0])), (mq1, .inl (cI, 240, .inl (fun _ => 0))), (mq2, .inl (cI, 2600, .inl (fun _ => 0))), (mq3, .inl (cI, 2600, .inl (fun _ => 0))), (mq4, .inl (cI, 5, .inl (fun _ => 0))), (mq5, .inl (cI, 5, .inl (fun _ => 0))), (mq6, .inl (cI, 700, .inl (fun _ => 0))), (mq7, .inl (cI, 700, .inl (fun _ => 0))), (mq8, .inl (cI, 700, .inl (fun _ => 0))), (mq9, .inl (cI, 6, .inl (fun _ => 0))), (mq10, .inl (cI, 80, .inl (fun _ => 0))), (mq11, .inl (cI, 3, .inl (fun _ => 0))), (mq12, .inl (cI, 24, .inl (fun _ => 0))), (mq13, .inl (cI, 20, .inl (fun _ => 0))), (mq14, .inl (cI, 3, .inl (fun _ => 0))), (mq15, .inl (cI, 24, .inl (fun _ => 0))), (mq16, .inl (cI, 20, .inl (fun _ => 0))), (mq17, .inl (cI, 97, .inl (fun _ => 0))), (mq18, .inl (cI, 5, .inl (fun _ => 0))), (mq19, .inl (cI, 3880, .inl (fun _ => 0))), (mq20, .inl (cI, 10, .inl (fun _ => 0))), (mq21, .inl (cI, 6, .inl (fun _ => 0))), (mq22, .inl (cI, 5, .inl (fun _ => 0))), (mq23, .inl (cI, 97, .inl (fun _ => 0)))] H := hP.sub [0, 1, 2, 3, 4, 5, 6, 7, 8, 9, 10, 11, 12, 13, 14, 15, 16, 17, 18, 19, 20, 21, 22, 23, 24, 25, 26, 27, 28, 29, 30, 31, 32, 33, 34, 35, 36, 61, 37, 38, 39, 40, 41, 42, 43, 44, 45, 46, 47, 48, 49, 50, 51, 52, 53, 54, 55, 56, 57, 58, 59, 60] rfl
  have hD : va_D (fun q : Nat => s.heap.size ≤ q) [(x0, .inr (10, [.ref xq1, .ref xq4, .ref xq6, .ref xq9, .ref xq14, .ref xq19, .ref xq20, .ref xq25, .ref xq30, .ref xq33, .ref xq39, .ref xq45, .ref xq47, .int 0, .int (-1), .int 0, .int 0])), (xq1, .inr (9, [.ref xq3, .int 0, .int 0])), (xq3, .inl (cI, 260, .inl (fun _ => 0))), (xq4, .inr (2, [.null, .null, .int 0])), (xq6, .inr (5, [.ref xq8, .int 0, .null])), (xq8, .inl (cI, 241, .inl (fun _ => 0))), (xq9, .inr (1, [.ref xq11, .ref xq12, .ref xq13, .int 0, .int 0])), (xq11, .inl (cI, 3, .inl (fun _ => 0))), (xq12, .inl (cI, 24, .inl (fun _ => 0))), (xq13, .inl (cI, 20, .inl (fun _ => 0))), (xq14, .inr (1, [.ref xq16, .ref xq17, .ref xq18, .int 0, .int 0])), (xq16, .inl (cI, 3, .inl (fun _ => 0))), (xq17, .inl (cI, 24, .inl (fun _ => 0))), (xq18, .inl (cI, 20, .inl (fun _ => 0))), (xq19, .inl (cQ, 4, .inr (.inr (.inr (.inr (fun _ => none)))))), (xq20, .inr (7, [.ref xq22, .ref xq23, .ref xq24, .int 0, .int 0, .int 0, .int (-1), .int 0, .int 0])), (xq22, .inl (cI, 6, .inl (fun _ => 0))), (xq23, .inl (cI, 5, .inl (fun _ => 0))), (xq24, .inl (cI, 80, .inl (fun _ => 0))), (xq25, .inr (7, [.ref xq27, .ref xq28, .ref xq29, .int 0, .int 0, .int 0, .int (-1), .int 0, .int 0])), (xq27, .inl (cI, 6, .inl (fun _ => 0))), (xq28, .inl (cI, 5, .inl (fun _ => 0))), (xq29, .inl (cI, 80, .inl (fun _ => 0))), (xq30, .inr (0, [.ref xq32, .int 0, .int 0])), (xq32, .inl (cI, 680, .inl (fun _ => 0))), (xq33, .inr (8, [.ref xq35, .ref xq36, .ref xq14, .ref xq20, .ref xq37, .ref xq38, .null])), (xq35, .inl (cI, 10, .inl (fun _ => 0))), (xq36, .inl (cI, 10, .inl (fun _ => 0))), (xq37, .inl (cI, 6, .inl (fun _ => 0))), (xq38, .inl (cI, 32, .inl (fun _ => 0))), (xq39, .inr (6, [.ref xq14, .ref xq20, .ref xq33, .ref xq41, .long 0, .int 0, .ref xq42, .ref xq43, .ref xq44])), (xq41, .inl (cJ, 10, .inr (.inl (fun _ => 0)))), (xq42, .inl (cI, 10, .inl (fun _ => 0))), (xq43, .inl (cI, 10, .inl (fun _ => 0))), (xq44, .inl (cI, 45, .inl (fun _ => 0))), (xq45, .inr (3, [.long 0])), (xq47, .inl (cI, 5, .inl (fun _ => 0))), (o0, .inl (cJ, 1, .inr (.inl (fun _ => 0)))), (m0, .inr (11, [.int 0, .ref mq1, .int 0, .int 0, .int 0, .int 0, .ref mq2, .ref mq3, .ref mq4, .ref mq5, .ref mq6, .ref mq7, .ref mq8, .int 0, .int 0, .ref mq9, .ref mq10, .ref mq11, .ref mq12, .ref mq13, .int 0, .int 0, .ref mq14, .ref mq15, .ref mq16, .int 0, .int 0, .ref mq17, .ref mq18, .int (-1), .int 0, .ref mq19, .int 0, .long 0, .ref mq20, .int 0, .int 0, .ref mq21, .ref mq22, .ref mq23, .int 0])), (mq1, .inl (cI, 240, .inl (fun _ => 0))), (mq2, .inl (cI, 2600, .inl (fun _ => 0))), (mq3, .inl (cI, 2600, .inl (fun _ => 0))), (mq4, .inl (cI, 5, .inl (fun _ => 0))), (mq5, .inl (cI, 5, .inl (fun _ => 0))), (mq6, .inl (cI, 700, .inl (fun _ => 0))), (mq7, .inl (cI, 700, .inl (fun _ => 0))), (mq8, .inl (cI, 700, .inl (fun _ => 0))), (mq9, .inl (cI, 6, .inl (fun _ => 0))), (mq10, .inl (cI, 80, .inl (fun _ => 0))), (mq11, .inl (cI, 3, .inl (fun _ => 0))), (mq12, .inl (cI, 24, .inl (fun _ => 0))), (mq13, .inl (cI, 20, .inl (fun _ => 0))), (mq14, .inl (cI, 3, .inl (fun _ => 0))), (mq15, .inl (cI, 24, .inl (fun _ => 0))), (mq16, .inl (cI, 20, .inl (fun _ => 0))), (mq17, .inl (cI, 97, .inl (fun _ => 0))), (mq18, .inl (cI, 5, .inl (fun _ => 0))), (mq19, .inl (cI, 3880, .inl (fun _ => 0))), (mq20, .inl (cI, 10, .inl (fun _ => 0))), (mq21, .inl (cI, 6, .inl (fun _ => 0))), (mq22, .inl (cI, 5, .inl (fun _ => 0))), (mq23, .inl (cI, 97, .inl (fun _ => 0)))] := hD.sub [0, 1, 2, 3, 4, 5, 6, 7, 8, 9, 10, 11, 12, 13, 14, 15, 16, 17, 18, 19, 20, 21, 22, 23, 24, 25, 26, 27, 28, 29, 30, 31, 32, 33, 34, 35, 36, 61, 37, 38, 39, 40, 41, 42, 43, 44, 45, 46, 47, 48, 49, 50, 51, 52, 53, 54, 55, 56, 57, 58, 59, 60] (by decide) rfl
  exact law_loop hl0 C0 hK3 hV hG hCa hL 600 0 zSy0 (zXC cI cJ cQ x0 ⟨⟨xq1, xq4, xq6, xq9, xq14, xq19, xq20, xq25⟩, ⟨xq30, xq33, xq39, xq45, xq47, 0, (-1), 0⟩, ⟨0, xq3, 0, 0, (fun _ => 0), (.null), (.null), 0⟩, ⟨xq8, 0, (.null), (fun _ => 0), xq11, xq12, xq13, 0⟩, ⟨0, (fun _ => 0), (fun _ => 0), (fun _ => 0), xq16, xq17, xq18, 0⟩, ⟨0, (fun _ => 0), (fun _ => 0), (fun _ => 0), (fun _ => none), xq22, xq23, xq24⟩, ⟨0, 0, 0, (-1), 0, 0, (fun _ => 0), (fun _ => 0)⟩, ⟨(fun _ => 0), xq27, xq28, xq29, 0, 0, 0, (-1)⟩, ⟨0, 0, (fun _ => 0), (fun _ => 0), (fun _ => 0), xq32, 0, 0⟩, ⟨(fun _ => 0), xq35, xq36, xq37, xq38, (.null), (fun _ => 0), (fun _ => 0)⟩, ⟨(fun _ => 0), (fun _ => 0), xq41, 0, 0, xq42, xq43, xq44⟩, ⟨(fun _ => 0), (fun _ => 0), (fun _ => 0), (fun _ => 0), 0, (fun _ => 0)⟩⟩ ++ []) (zXR cI m0 ⟨⟨0, mq1, 0, 0, 0, 0, mq2, mq3⟩, ⟨mq4, mq5, mq6, mq7, mq8, 0, 0, mq9⟩, ⟨mq10, mq11, mq12, mq13, 0, 0, mq14, mq15⟩, ⟨mq16, 0, 0, mq17, mq18, (-1), 0, mq19⟩, ⟨0, 0, mq20, 0, 0, mq21, mq22, mq23⟩, ⟨0, (fun _ => 0), (fun _ => 0), (fun _ => 0), (fun _ => 0), (fun _ => 0), (fun _ => 0), (fun _ => 0)⟩, ⟨(fun _ => 0), (fun _ => 0), (fun _ => 0), (fun _ => 0), (fun _ => 0), (fun _ => 0), (fun _ => 0), (fun _ => 0)⟩, ⟨(fun _ => 0), (fun _ => 0), (fun _ => 0), (fun _ => 0), (fun _ => 0), (fun _ => 0), (fun _ => 0), (fun _ => 0)⟩⟩) (fun _ => 0) 0 H locs ls rfl (by decide) zOkG_0 ⟨_, [], rfl, ⟨(show 0 ≤ (0 : Int32).toInt ∧ (0 : Int32).toInt ≤ 40 by decide), (show 0 ≤ (0 : Int32).toInt ∧ (0 : Int32).toInt ≤ 6 by decide), (show 0 ≤ (0 : Int32).toInt ∧ (0 : Int32).toInt ≤ 5 by decide), (show 0 ≤ (0 : Int32).toInt ∧ (0 : Int32).toInt ≤ 20 by decide), (show (-1) ≤ (-1 : Int32).toInt ∧ (-1 : Int32).toInt ≤ 5 by decide), (show 0 ≤ (0 : Int32).toInt ∧ (0 : Int32).toInt ≤ 1 by decide), (show 0 ≤ (0 : Int32).toInt ∧ (0 : Int32).toInt ≤ 1 by decide), (show 0 ≤ (0 : Int32).toInt ∧ (0 : Int32).toInt ≤ 20 by decide), (show (-1) ≤ (-1 : Int32).toInt ∧ (-1 : Int32).toInt ≤ 5 by decide), (show 0 ≤ (0 : Int32).toInt ∧ (0 : Int32).toInt ≤ 4 by decide), (show 0 ≤ (0 : Int32).toInt ∧ (0 : Int32).toInt ≤ 9 by decide), (show 0 ≤ (0 : Int32).toInt ∧ (0 : Int32).toInt ≤ 6 by decide), (show 0 ≤ (0 : Int32).toInt ∧ (0 : Int32).toInt ≤ 5 by decide), (show 0 ≤ (0 : Int32).toInt ∧ (0 : Int32).toInt ≤ 39 by decide), (show 0 ≤ (0 : Int32).toInt ∧ (0 : Int32).toInt ≤ 241 by decide), (show 0 ≤ (0 : Int32).toInt ∧ (0 : Int32).toInt ≤ 240 by decide), (show 0 ≤ (0 : Int32).toInt ∧ (0 : Int32).toInt ≤ 240 by decide), zPo_z, zPo_z, zRw_z, zSt_z⟩, zPl_z, Or.inl ⟨rfl, zHo1_0⟩, ⟨zGt_0, rfl, rfl, zGc_0, rfl, zTc_0, zIc_0⟩⟩ ⟨_, rfl, ⟨(show 0 ≤ (0 : Int32).toInt ∧ (0 : Int32).toInt ≤ 40 by decide), (show 0 ≤ (0 : Int32).toInt ∧ (0 : Int32).toInt ≤ 1 by decide), (show (-1) ≤ (-1 : Int32).toInt ∧ (-1 : Int32).toInt ≤ 3 by decide), (show 0 ≤ (0 : Int32).toInt ∧ (0 : Int32).toInt ≤ 4 by decide), (show 0 ≤ (0 : Int32).toInt ∧ (0 : Int32).toInt ≤ 6 by decide), (show 0 ≤ (0 : Int32).toInt ∧ (0 : Int32).toInt ≤ 5 by decide), (show 0 ≤ (0 : Int32).toInt ∧ (0 : Int32).toInt ≤ 6 by decide), (show 0 ≤ (0 : Int32).toInt ∧ (0 : Int32).toInt ≤ 5 by decide), (show 0 ≤ (0 : Int32).toInt ∧ (0 : Int32).toInt ≤ 260 by decide), (show 0 ≤ (0 : Int32).toInt ∧ (0 : Int32).toInt ≤ 240 by decide), (show (-1) ≤ (0 : Int32).toInt ∧ (0 : Int32).toInt ≤ 260 by decide), (zNw_z rfl rfl), zKp_00, zIm_00, zBr_z, zBr_z, zAs_z, zHo_z, zAl_z, (Or.inl (show (0 : Int32).toInt = 0 by decide)), (show (-1 : Int32).toInt < (0 : Int32).toInt by decide)⟩, ⟨zGt_0, rfl, rfl, zGc_0, rfl, zAls_0, zTr_0, zIr_0⟩⟩ hP hD hS (lv_sub hl [4, 3, 2, 1, 0] rfl)
