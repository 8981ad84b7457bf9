/-! THE CLAIM OUT OF ONE WALK OF THE LAW'S BODY. Your part is whole_start (and what it stands on); all else here is the same for every law, but numbers. -/
def R_law : String := "NinePortraitsLaw"
def lw_P (b : Addr) (xs : List Int32) (args : Array Value) (s : State) : Prop := args = #[.ref b] ∧ s.IntsAt b xs ∧ xs.length ≤ 7 ∧ (Jvm.Cond.and given_1 narrow_1).before args s = true
def lw_Q (_ : Array Value) (s : State) (o : Outcome) (t : State) : Prop := o = .returned (some (.int 1)) ∧ Framed s o t [] 600002 7302232
def lw_Z (below : List Frame) (a : Array Value) (s : State) : State → Prop := fun t => ∃ o, t.status = .running ∧ Ended t below o ∧ lw_Q a s o t
/-- the law's own end, with 1 on the stack, nothing written that was there before, its room as the claim has it -/
theorem lw_ret {p : Program} {l : Launch} {e : Env} {s : State} {m : MethodId} {below : List Frame} {meth : Method} {c : Code} {b : Nat} (hx : p.tables.exec = Jvm.exec) (hb : c.code = code) (hr : meth.sig.returnType = ret) (hlocks : meth.locks = false) {pc : Nat} {H : Heap} {ls : Array Slot} (hdg : decode code pc = .ok (.ireturn, 1)) : W p l e room_1 s m #[Value.ref b] below meth c H [] 600002 7302232 (lw_Z below #[Value.ref b] s) (F0 m pc ls [.int 1]) := by
  intro T hT X
  obtain ⟨fs, hret, hrun, hended, hW, hframe⟩ := X.leave (v := some (.int 1)) (hlocks := hlocks) (fun h => by rw [hr] at h; cases h)
  have hmeth' : T.vm.method? m = some meth := X.method'
  refine ⟨T.setFrames fs, ?_, .returned (some (.int 1)), hrun, hended, rfl, ⟨_, rfl⟩, hW, hframe⟩
  jvm_step X.here [X.here.top, hx, hb, hdg, hmeth', hr, ret, narrow_b1]
  (try refine ⟨rfl, ?_⟩); (try refine ⟨rfl, ?_⟩)
  first | (intro acts; rw [hret _ acts rfl rfl rfl]) | rw [hret _ _ rfl rfl rfl]
  exact Steps.refl _
/-- what holds at the law's entry: the machine, the code, the tables' words (any of lw_tbl by 'hts w (by decide +kernel)'), the script of L ints xs at the cell b, what the Statement gives of the start (any of its parts by flat_of_before) -/
def lw_At (p : Program) (s : State) (m : MethodId) (meth : Method) (c : Code) (b L : Nat) (xs : Nat → Int32) : Prop :=
  p.tables.exec = Jvm.exec ∧ c.code = code ∧ meth.sig.returnType = ret ∧ c.maxLocals = 7 ∧ s.vm.findClass R_law = some m.cls ∧ (∀ w ∈ lw_tbl, w.before #[Value.ref b] s = true) ∧ va_X b L xs s s.heap ∧ b < s.heap.size ∧ meth.locks = false ∧ (Jvm.Cond.and given_1 narrow_1).before #[Value.ref b] s = true
theorem zarr {s : State} {args : Array Value} {ty : FieldType} (hne : ∀ C, ty ≠ .object C) (h : (Cond.arrayClass ty).before args s = true) : ∃ cA : ClassId, ArrOfT s cA ty ∧ va_RA s cA ty := by
  obtain ⟨cA, kA, comp, h1, h2, h3⟩ := Cond.arrayClass_spec h
  refine ⟨cA, fun n z => ⟨fun k h => (by cases h), kA, h2, comp, h3⟩, ?_⟩
  cases ty <;> first | exact h1 | exact absurd rfl (hne _)
set_option maxRecDepth 20000 in
theorem zE_law {b : Nat} {s : State} (hts0 : ∀ w ∈ lw_tbl, w.before #[Value.ref b] s = true) : zE s :=
  ⟨va_Nw.of rfl (hts0 _ (List.mem_of_getElem? (i := 128) (by decide +kernel))), va_Nw.of rfl (hts0 _ (List.mem_of_getElem? (i := 150) (by decide +kernel))), va_Nw.of rfl (hts0 _ (List.mem_of_getElem? (i := 166) (by decide +kernel))), va_Nw.of rfl (hts0 _ (List.mem_of_getElem? (i := 182) (by decide +kernel))), va_Nw.of rfl (hts0 _ (List.mem_of_getElem? (i := 216) (by decide +kernel))), va_Nw.of rfl (hts0 _ (List.mem_of_getElem? (i := 264) (by decide +kernel))), va_Nw.of rfl (hts0 _ (List.mem_of_getElem? (i := 348) (by decide +kernel))), va_AO.of (hts0 _ (List.mem_of_getElem? (i := 213) (by decide +kernel)))⟩
set_option maxRecDepth 20000 in
theorem zF_law {b : Nat} {s : State} (hts0 : ∀ w ∈ lw_tbl, w.before #[Value.ref b] s = true) (hgv : (Jvm.Cond.and given_1 narrow_1).before #[Value.ref b] s = true) : ∃ g0 : Nat, zF g0 (fun q : Nat => s.heap.size ≤ q) s := by
  have hs := flat_of_before _ hgv
  have hA : ∀ a : Nat, a < s.heap.size → ¬ (fun q : Nat => s.heap.size ≤ q) a := fun a h => Nat.not_le.mpr h
  have ha : (Cond.arrayOf (.static "NinePortraits$CourtReader" "RULE_DEFAULTS" "[I") .int).before #[Value.ref b] s = true := hs _ (by decide +kernel)
  have hn : (Cond.eq (.length (.static "NinePortraits$CourtReader" "RULE_DEFAULTS" "[I")) (.int 3)).before #[Value.ref b] s = true := hs _ (by decide +kernel)
  have e0 : (Cond.eq (.elem (.static "NinePortraits$CourtReader" "RULE_DEFAULTS" "[I") (.int 0)) (.int 40)).before #[Value.ref b] s = true := hs _ (by decide +kernel)
  have e1 : (Cond.eq (.elem (.static "NinePortraits$CourtReader" "RULE_DEFAULTS" "[I") (.int 1)) (.int 5)).before #[Value.ref b] s = true := hs _ (by decide +kernel)
  have e2 : (Cond.eq (.elem (.static "NinePortraits$CourtReader" "RULE_DEFAULTS" "[I") (.int 2)) (.int 3)).before #[Value.ref b] s = true := hs _ (by decide +kernel)
  obtain ⟨g0, h1, h2⟩ := va_Tof (tm := .static "NinePortraits$CourtReader" "RULE_DEFAULTS" "[I") (ty := .int) (N := 3) (f := fun j => .int (zRD j)) (by decide) ha (va_eqt hn) (fun j hj => match j, hj with
    | 0, _ => va_eqt e0
    | 1, _ => va_eqt e1
    | 2, _ => va_eqt e2
    | k + 3, h => absurd h (by omega)) hA
  exact ⟨g0, va_Zref (hts0 _ (List.mem_of_getElem? (i := 429) (by decide +kernel))) (hts0 _ (List.mem_of_getElem? (i := 100) (by decide +kernel))) h1 hA, h2⟩
set_option maxRecDepth 20000 in
theorem zG_law {b : Nat} {s : State} (hts0 : ∀ w ∈ lw_tbl, w.before #[Value.ref b] s = true) (hgv : (Jvm.Cond.and given_1 narrow_1).before #[Value.ref b] s = true) : zG (fun q : Nat => s.heap.size ≤ q) s := by
  have hs := flat_of_before _ hgv
  have hA : ∀ a : Nat, a < s.heap.size → ¬ (fun q : Nat => s.heap.size ≤ q) a := fun a h => Nat.not_le.mpr h
  have r1 : (Cond.isRef (.static Bundle.tN "UNASSIGNED_STACK" Bundle.steD)).before #[Value.ref b] s = true := hs _ (by decide +kernel)
  have r2 : (Cond.isRef (.static Bundle.tN "SUPPRESSED_SENTINEL" Bundle.listD)).before #[Value.ref b] s = true := hs _ (by decide +kernel)
  exact ⟨⟨va_Nw.of rfl (hts0 _ (List.mem_of_getElem? (i := 1062) (by decide +kernel))), va_Nw.of rfl (hts0 _ (List.mem_of_getElem? (i := 1064) (by decide +kernel))), va_Nw.of rfl (hts0 _ (List.mem_of_getElem? (i := 1066) (by decide +kernel))), va_Nw.of rfl (hts0 _ (List.mem_of_getElem? (i := 1061) (by decide +kernel)))⟩, vx_Zqof (hts0 _ (List.mem_of_getElem? (i := 1086) (by decide +kernel))) (hts0 _ (List.mem_of_getElem? (i := 113) (by decide +kernel))) r1 hA, vx_Zqof (hts0 _ (List.mem_of_getElem? (i := 1088) (by decide +kernel))) (hts0 _ (List.mem_of_getElem? (i := 113) (by decide +kernel))) r2 hA⟩
set_option maxHeartbeats 4000000 in
set_option maxRecDepth 100000 in
theorem law_end {p : Program} {l : Launch} {e : Env} {s : State} {m : MethodId} {below : List Frame} {meth : Method} {c : Code} {b : Nat} {xs : Nat → Int32} (C0 : lw_At p s m meth c b 7 xs) {H : Heap} {locs : List Loc} {k n : Nat} (hS : va_S (fun q : Nat => s.heap.size ≤ q) s.heap H locs) {ls : Array Slot} (hl : lv_has ls 7 [(0, .ref b), (4, .int 0)]) (hk : k ≤ 600002 := by decide) (hn : n ≤ 7302232 := by decide) : W p l e room_1 s m #[Value.ref b] below meth c H locs k n (lw_Z below #[Value.ref b] s) (F0 m 1825 ls []) := by
  obtain ⟨hx, hb, hr, hml, hown, hts0, hX, hbl, hlocks, hgv⟩ := id C0
  have hbA : ¬ (fun q : Nat => s.heap.size ≤ q) b := Nat.not_le.mpr hbl
  refine W.widen (k := 600002) (n := 7302232) hk hn ?_
  refine lv_iinc (v := 7) (lv' := [(4, .int 7), (0, .ref b)]) hx hb dL_law_1825 hl (k := 1) rfl (by decide) (by decide) rfl (fun ls hl => ?_)
  refine lv_goto (tgt := 23) hx hb dL_law_1828 (by decide) ?_
  refine lv_iload hx hb dL_law_23 (lv_at hl 0 rfl) ?_
  refine lv_aload_n hx hb dL_law_25 rfl (lv_at hl 1 rfl) ?_
  refine va_slen hx hb hX hbl hbA hS dL_law_26 ?_
  refine lv_bipush (v := 7) hx hb dL_law_27 (by decide) ?_
  refine lv_isub hx hb dL_law_29 ?_
  refine lv_icmp_gt (tgt := 1831) hx hb dL_law_30 (by decide) (fun _ => ?_) (fun q => absurd (by decide) q)
  refine lv_iconst (v := 1) hx hb dL_law_1831 (by decide) ?_
  refine va_forget (fun q hq => hS.2.2 q hq) ?_
  exact lw_ret hx hb hr hlocks dL_law_1832
