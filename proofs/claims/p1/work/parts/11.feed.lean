/-! ===== Int32 by its bits: bt x i ===== -/
def bt (x : Int32) (i : Nat) : Bool := x.toBitVec.getLsbD i
theorem b_ext {x y : Int32} (h : ∀ i, i < 32 → bt x i = bt y i) : x = y := Int32.toBitVec_inj.mp (BitVec.eq_of_getLsbD_eq (fun i hi => h i hi))
theorem b_or (x y : Int32) (i : Nat) : bt (x ||| y) i = (bt x i || bt y i) := by unfold bt; rw [Int32.toBitVec_or, BitVec.getLsbD_or]
theorem b_and (x y : Int32) (i : Nat) : bt (x &&& y) i = (bt x i && bt y i) := by unfold bt; rw [Int32.toBitVec_and, BitVec.getLsbD_and]
theorem b_xor (x y : Int32) (i : Nat) : bt (x ^^^ y) i = (bt x i ^^ bt y i) := by unfold bt; rw [Int32.toBitVec_xor, BitVec.getLsbD_xor]
theorem b_big {x : Int32} {i : Nat} (h : 32 ≤ i) : bt x i = false := BitVec.getLsbD_of_ge _ _ h
theorem b_255 (i : Nat) : bt 255 i = decide (i < 8) := by
  rcases Nat.lt_or_ge i 32 with h | h
  · exact (by decide +kernel : ∀ i, i < 32 → bt 255 i = decide (i < 8)) i h
  · rw [b_big h, decide_eq_false (by omega)]
theorem b_65535 (i : Nat) : bt 65535 i = decide (i < 16) := by
  rcases Nat.lt_or_ge i 32 with h | h
  · exact (by decide +kernel : ∀ i, i < 32 → bt 65535 i = decide (i < 16)) i h
  · rw [b_big h, decide_eq_false (by omega)]
theorem b_m1 : ∀ i, i < 32 → bt (-1) i = true := by decide +kernel
theorem b_0 (i : Nat) : bt 0 i = false := BitVec.getLsbD_zero
theorem s_l : ∀ n, n < 32 → ((nI n &&& 31).toBitVec.smod 32).toNat = n := by decide +kernel
theorem s_u : ∀ n, n < 32 → (((nI n).toUInt32 &&& Int32.toUInt32 31).toBitVec % 32).toNat = n := by decide +kernel
theorem b_shl (n : Nat) (hn : n < 32) (x : Int32) {i : Nat} (hi : i < 32) : bt (x <<< (nI n &&& 31)) i = (decide (n ≤ i) && bt x (i - n)) := by
  unfold bt
  rw [Int32.toBitVec_shiftLeft]
  show (x.toBitVec <<< ((nI n &&& 31).toBitVec.smod 32).toNat).getLsbD i = _
  rw [s_l n hn, BitVec.getLsbD_shiftLeft]
  rcases Nat.lt_or_ge i n with h | h
  · simp [h, Nat.not_le.mpr h]
  · simp [hi, h, Nat.not_lt.mpr h]
theorem b_ushr (n : Nat) (hn : n < 32) (x : Int32) (i : Nat) : bt ((x.toUInt32 >>> ((nI n).toUInt32 &&& Int32.toUInt32 31)).toInt32) i = bt x (n + i) := by
  show (x.toUInt32 >>> ((nI n).toUInt32 &&& Int32.toUInt32 31)).toBitVec.getLsbD i = x.toUInt32.toBitVec.getLsbD (n + i)
  rw [UInt32.toBitVec_shiftRight]
  show (x.toUInt32.toBitVec >>> (((nI n).toUInt32 &&& Int32.toUInt32 31).toBitVec % 32).toNat).getLsbD i = _
  rw [s_u n hn, BitVec.getLsbD_ushiftRight]
theorem b_sshr (n : Nat) (hn : n < 32) (x : Int32) {i : Nat} (hi : i < 32) : bt (x >>> (nI n &&& 31)) i = if n + i < 32 then bt x (n + i) else bt x 31 := by
  unfold bt
  rw [Int32.toBitVec_shiftRight]
  show (x.toBitVec.sshiftRight ((nI n &&& 31).toBitVec.smod 32).toNat).getLsbD i = _
  rw [s_l n hn, BitVec.getLsbD_sshiftRight, BitVec.msb_eq_getLsbD_last]
  simp [hi]
theorem b_shl8 (x : Int32) {i : Nat} (hi : i < 32) : bt (x <<< ((8 : Int32) &&& 31)) i = (decide (8 ≤ i) && bt x (i - 8)) := b_shl 8 (by omega) x hi
theorem b_shl16 (x : Int32) {i : Nat} (hi : i < 32) : bt (x <<< ((16 : Int32) &&& 31)) i = (decide (16 ≤ i) && bt x (i - 16)) := b_shl 16 (by omega) x hi
theorem b_shl24 (x : Int32) {i : Nat} (hi : i < 32) : bt (x <<< ((24 : Int32) &&& 31)) i = (decide (24 ≤ i) && bt x (i - 24)) := b_shl 24 (by omega) x hi
theorem b_sshr8 (x : Int32) {i : Nat} (hi : i < 32) : bt (x >>> ((8 : Int32) &&& 31)) i = if 8 + i < 32 then bt x (8 + i) else bt x 31 := b_sshr 8 (by omega) x hi
/-- a byte of a word, by how far it is moved -/
def zbt (w : Int32) (n : Nat) : Int32 := (w >>> (nI n &&& 31)) &&& 255
def zo (x : Int32) : Nat := if x = 0 then 0 else 1
def zc4 (w : Int32) : Nat := zo (zbt w 24) + zo (zbt w 16) + zo (zbt w 8) + zo (zbt w 0)
theorem zo_le (x : Int32) : zo x ≤ 1 := by unfold zo; split <;> omega
theorem zc4_le (w : Int32) : zc4 w ≤ 4 := by
  have h1 := zo_le (zbt w 24)
  have h2 := zo_le (zbt w 16)
  have h3 := zo_le (zbt w 8)
  have h4 := zo_le (zbt w 0)
  unfold zc4
  omega
theorem zu (n : Nat) (hn : n ≤ 24) (w : Int32) : (w.toUInt32 >>> ((nI n).toUInt32 &&& Int32.toUInt32 31)).toInt32 &&& 255 = zbt w n := by
  unfold zbt
  apply b_ext
  intro i hi
  rw [b_and, b_and, b_255, b_ushr n (by omega), b_sshr n (by omega) w hi]
  by_cases h : i < 8
  · rw [if_pos (by omega)]
  · simp [h]
abbrev zTp (h0 h1 : Nat) (cI : ClassId) (k : Nat) (av : Int32) (f : Nat → Int32) : va_W := [(h0, .inr (9, [.ref h1, .int (nI k), .int av])), (h1, .inl (cI, 260, .inl f))]
set_option maxHeartbeats 4000000 in
set_option maxRecDepth 100000 in
theorem add_step {p : Program} {l : Launch} {e : Env} {R : Room} {s : State} {m : MethodId} {args : Array Value} {below : List Frame} {meth : Method} {c : Code} {Q : State → Prop} {cells slots : Nat} {dC : Nat → ClassId} {dI : Nat → Nat → Nat} {cI cJ : ClassId} {A : Nat → Prop} {h0 h1 : Nat} {w : Int32}
    (hx : p.tables.exec = Jvm.exec) (hb : c.code = cX9_add) (hown : s.vm.findClass RX9 = some m.cls) (hts : ∀ w ∈ wA, w.before args s = true) (hK : va_K (dC, dI) vwCl [(cI, .int), (cJ, .long)] s)
    (g k : Nat) (sh : Int32) (hg : g ≤ 24) (hk : k < 260) (hsh : nI g + Int32.ofInt (-8) = sh) {av : Int32} {f : Nat → Int32} {H : Heap} {locs : List Loc} (hP : va_P (dC, dI) vwCl (zTp h0 h1 cI k av f) H) (hD : va_D A (zTp h0 h1 cI k av f)) (hS : va_S A s.heap H locs) {ls : Array Slot} (hl : lv_has ls 4 [(0, .ref h0), (1, .int w), (2, .int (nI g))])
    (kk : ∀ (f2 : Nat → Int32) (H : Heap) (locs : List Loc) (ls : Array Slot), va_P (dC, dI) vwCl (zTp h0 h1 cI (k + zo (zbt w g)) av f2) H → va_D A (zTp h0 h1 cI (k + zo (zbt w g)) av f2) → va_S A s.heap H locs → lv_has ls 4 [(0, .ref h0), (1, .int w), (2, .int sh)] → W p l e R s m args below meth c H locs cells slots Q (F0 m 3 ls [])) :
    W p l e R s m args below meth c H locs cells slots Q (F0 m 3 ls []) := by
  refine lv_iload_n hx hb dX9_add_3 rfl (lv_at hl 2 rfl) ?_
  refine lv_if_lt (tgt := 57) hx hb dX9_add_4 (by decide) (fun q => absurd q (nI_pos (by omega))) (fun _ => ?_)
  refine lv_iload_n hx hb dX9_add_7 rfl (lv_at hl 1 rfl) ?_
  refine lv_iload_n hx hb dX9_add_8 rfl (lv_at hl 2 rfl) ?_
  refine lv_iushr hx hb dX9_add_9 rfl ?_
  refine lv_sipush (v := 255) hx hb dX9_add_10 (by decide) ?_
  refine lv_iand hx hb dX9_add_13 ?_
  refine lv_topi (fun b eb => ?_)
  have eb : b = zbt w g := eb.trans (zu g hg w)
  refine lv_istore_n (lv' := [(3, .int b), (0, .ref h0), (1, .int w), (2, .int (nI g))]) hx hb dX9_add_14 rfl hl (by decide) rfl (fun ls hl => ?_)
  refine lv_iload_n hx hb dX9_add_15 rfl (lv_at hl 0 rfl) ?_
  refine lv_if_eq (tgt := 51) hx hb dX9_add_16 (by decide) (fun c0 => ?_) (fun c0 => ?_)
  · refine lv_iinc (v := sh) (lv' := [(2, .int sh), (3, .int b), (0, .ref h0), (1, .int w)]) hx hb dX9_add_51 hl (k := 3) rfl hsh (by decide) rfl (fun ls hl => ?_)
    refine lv_goto (tgt := 3) hx hb dX9_add_54 (by decide) ?_
    have ez : zo (zbt w g) = 0 := by rw [← eb, c0]; rfl
    rw [ez] at kk
    exact kk f H locs ls hP hD hS (lv_sub hl [2, 3, 0] rfl)
  · have ez : zo (zbt w g) = 1 := by rw [← eb]; exact if_neg c0
    rw [ez] at kk
    refine lv_aload_n hx hb dX9_add_19 rfl (lv_at hl 1 rfl) ?_
    refine va_get (D := (dC, dI)) (ci := 9) (v := .int (nI k)) (C := RX9) (T := TX9) (N := 3) hx hb hts iX9 hown hK hP 0 rfl rfl 1 (by decide) (hts _ qw134) (fun _ h9 => h9) rfl dX9_add_20 ?_
    refine lv_aload_n hx hb dX9_add_23 rfl (lv_at hl 1 rfl) ?_
    refine va_get (D := (dC, dI)) (ci := 9) (v := .ref h1) (C := RX9) (T := TX9) (N := 3) hx hb hts iX9 hown hK hP 0 rfl rfl 0 (by decide) (hts _ qw132) (fun _ h9 => h9) rfl dX9_add_24 ?_
    refine va_alen (v := 260) hx hb hK hP 1 0 rfl rfl rfl dX9_add_27 ?_
    refine lv_icmp_ge (tgt := 51) hx hb dX9_add_28 (by decide) (fun q => absurd ((nI_leI (a := 260) (b := k) (by omega) (by omega)).mp q) (by omega)) (fun _ => ?_)
    refine lv_aload_n hx hb dX9_add_31 rfl (lv_at hl 1 rfl) ?_
    refine va_get (D := (dC, dI)) (ci := 9) (v := .ref h1) (C := RX9) (T := TX9) (N := 3) hx hb hts iX9 hown hK hP 0 rfl rfl 0 (by decide) (hts _ qw132) (fun _ h9 => h9) rfl dX9_add_32 ?_
    refine lv_aload_n hx hb dX9_add_35 rfl (lv_at hl 1 rfl) ?_
    refine va_get (D := (dC, dI)) (ci := 9) (v := .int (nI k)) (C := RX9) (T := TX9) (N := 3) hx hb hts iX9 hown hK hP 0 rfl rfl 1 (by decide) (hts _ qw134) (fun _ h9 => h9) rfl dX9_add_36 ?_
    refine lv_iload_n hx hb dX9_add_39 rfl (lv_at hl 0 rfl) ?_
    refine va_iast hx hb hK hP hD hS 1 0 rfl rfl (vp_in_nI hk (by omega)) dX9_add_40 (fun H locs hP hD hS => ?_)
    generalize upd f (nI k).toNatClampNeg b = f2 at hP hD
    have hP : va_P (dC, dI) vwCl (zTp h0 h1 cI k av f2) H := hP
    have hD : va_D A (zTp h0 h1 cI k av f2) := hD
    refine lv_aload_n hx hb dX9_add_41 rfl (lv_at hl 1 rfl) ?_
    refine lv_dup hx hb dX9_add_42 rfl ?_
    refine va_get (D := (dC, dI)) (ci := 9) (v := .int (nI k)) (C := RX9) (T := TX9) (N := 3) hx hb hts iX9 hown hK hP 0 rfl rfl 1 (by decide) (hts _ qw134) (fun _ h9 => h9) rfl dX9_add_43 ?_
    refine lv_iconst (v := 1) hx hb dX9_add_46 (by decide) ?_
    refine lv_iadd hx hb dX9_add_47 ?_
    refine lv_topi (fun z ez2 => ?_)
    obtain rfl : z = nI (k + 1) := ez2.trans (nI_1 k)
    refine va_put (D := (dC, dI)) (ci := 9) (v := .int (nI (k + 1))) (ty := .int) (C := RX9) (T := TX9) (N := 3) hx hb hts iX9 tyX9 tyX9_ok nmX9 hown hK hP hD hS 0 rfl rfl 1 (by decide) (hts _ qw134) (fun _ h9 => h9) rfl (by decide +kernel) rfl rfl (Nat.le_of_ble_eq_true rfl) dX9_add_48 (fun H locs hP hD hS => ?_)
    refine lv_iinc (v := sh) (lv' := [(2, .int sh), (3, .int b), (0, .ref h0), (1, .int w)]) hx hb dX9_add_51 hl (k := 3) rfl hsh (by decide) rfl (fun ls hl => ?_)
    refine lv_goto (tgt := 3) hx hb dX9_add_54 (by decide) ?_
    exact kk f2 H locs ls hP hD hS (lv_sub hl [2, 3, 0] rfl)
set_option maxHeartbeats 4000000 in
set_option maxRecDepth 100000 in
/-- Tape.add(word): its bytes that are not 0 are put behind, while there is room -/
theorem c_add (l : Launch) (dC : Nat → ClassId) (dI : Nat → Nat → Nat) (cI cJ : ClassId) (h0 h1 : Nat) (sz : Nat) (k : Nat) (av : Int32) (f : Nat → Int32) (w : Int32) (hk : k + 4 ≤ 260) : Met l yX9_add (.code yX9_add cX9_add 4 none :: wA) ({ frames := 0, cells := 0, slots := 0, locals := 0 }) (zP (dC, dI) [(cI, .int), (cJ, .long)] [.ref h0, .int w] sz (zTp h0 h1 cI k av f)) (va_Qv (fun (_ : Nat → Int32) => True) (fun f2 t => va_P (dC, dI) vwCl (zTp h0 h1 cI (k + zc4 w) av f2) t.heap ∧ va_D (va_A (zTp h0 h1 cI k av f) sz) (zTp h0 h1 cI (k + zc4 w) av f2)) (va_A (zTp h0 h1 cI k av f) sz)) 0 0 (va_A (zTp h0 h1 cI k av f) sz) := by
  refine Met.ofW (cc := cX9_add) (maxL := 4) (ret := none) (by decide) rfl ?_
  intro p e s m args below meth c s₁ B hml hv
  obtain ⟨rfl, hsz, hP, hK, hT⟩ := hv
  have hx := B.exec
  have hb := B.bytes
  have hr := B.returns
  have hts : ∀ w ∈ wA, w.before _ s = true := fun w h => atoms_spec (ws := .code yX9_add cX9_add 4 none :: wA) B.pre w (List.mem_cons_of_mem _ h)
  have hown : s.vm.findClass RX9 = some m.cls := findClass_of_methodNamed B.named
  have hlocks := B.notSynchronized
  subst hsz
  have hD := hT.self (sz := s.heap.size)
  generalize hAe : va_A (zTp h0 h1 cI k av f) s.heap.size = A at hD ⊢
  have hl := lv_entry ([.ref h0, .int w]) (n := 4) (Nat.le_of_ble_eq_true rfl)
  rw [lg_entry_eq]
  generalize (lg_sl ([.ref h0, .int w]) ++ List.replicate (4 - (lg_sl ([.ref h0, .int w])).length) Slot.unset).toArray = ls at hl ⊢
  have hl : lv_has ls 4 [(0, .ref h0), (1, .int w)] := hl
  refine zstart (fun H hH => ?_)
  rw [← hH] at hP
  have hS : va_S A s.heap H [] := by rw [hH]; exact va_S.rf
  have z1 := zo_le (zbt w 24)
  have z2 := zo_le (zbt w 16)
  have z3 := zo_le (zbt w 8)
  refine lv_bipush (v := 24) hx hb dX9_add_0 (by decide) ?_
  refine lv_istore_n (lv' := [(2, .int 24), (0, .ref h0), (1, .int w)]) hx hb dX9_add_2 rfl hl (by decide) rfl (fun ls hl => ?_)
  refine add_step (l := l) hx hb hown hts hK 24 k 16 (by omega) (by omega) (by decide) hP hD hS (lv_sub hl [1, 2, 0] rfl) (fun f H locs ls hP hD hS hl => ?_)
  refine add_step (l := l) hx hb hown hts hK 16 (k + zo (zbt w 24)) 8 (by omega) (by omega) (by decide) hP hD hS hl (fun f H locs ls hP hD hS hl => ?_)
  refine add_step (l := l) hx hb hown hts hK 8 (k + zo (zbt w 24) + zo (zbt w 16)) 0 (by omega) (by omega) (by decide) hP hD hS hl (fun f H locs ls hP hD hS hl => ?_)
  refine add_step (l := l) hx hb hown hts hK 0 (k + zo (zbt w 24) + zo (zbt w 16) + zo (zbt w 8)) (-8) (by omega) (by omega) (by decide) hP hD hS hl (fun f H locs ls hP hD hS hl => ?_)
  refine lv_iload_n hx hb dX9_add_3 rfl (lv_at hl 2 rfl) ?_
  refine lv_if_lt (tgt := 57) hx hb dX9_add_4 (by decide) (fun _ => ?_) (fun q => absurd (by decide) q)
  have ek : k + zo (zbt w 24) + zo (zbt w 16) + zo (zbt w 8) + zo (zbt w 0) = k + zc4 w := by unfold zc4; omega
  rw [ek] at hP hD
  exact W.vret hx hb hr (fun t ht hW => ⟨⟨f, rfl, trivial, by rw [ht]; exact hP, hD⟩, hS.F ht⟩) hS.2.2 dX9_add_57
set_option maxHeartbeats 4000000 in
set_option maxRecDepth 100000 in
theorem c_X10_feed (l : Launch) (dC : Nat → ClassId) (dI : Nat → Nat → Nat) (cI cJ : ClassId) (h0 h1 h2 h3 h4 h5 h6 h7 h8 h9 h10 h11 h12 h13 h14 : Nat) (sz : Nat) (p0 : Int32) (p1 : Int32) (p2 : Int32) (p3 : Int32) (p4 : Int32) : Met l yX10_feed (.code yX10_feed cX10_feed 7 (some .int) :: wA) ({ frames := 1, cells := 0, slots := 0, locals := 23 }) (zP (dC, dI) [(cI, .int), (cJ, .long)] [.ref h0, .int p0, .int p1, .int p2, .int p3, .int p4] sz [(h0, .inr (10, [.ref h1, .ref h2, .ref h3, .ref h4, .ref h5, .ref h6, .ref h7, .ref h8, .ref h9, .ref h10, .ref h11, .ref h12, .ref h13, .int 0, .int (-1), .int 0, .int 0])), (h1, .inr (9, [.ref h14, .int 0, .int 0])), (h14, .inl (cI, 260, .inl (fun _ => 0)))]) (va_Qi (fun (r : Int32) (_ : Unit) => r = nI (0 + zc4 p0 + zc4 p1 + zc4 p2 + zc4 p3 + zc4 p4)) (fun (_ : Unit) (_ : State) => True) (va_A [(h0, .inr (10, [.ref h1, .ref h2, .ref h3, .ref h4, .ref h5, .ref h6, .ref h7, .ref h8, .ref h9, .ref h10, .ref h11, .ref h12, .ref h13, .int 0, .int (-1), .int 0, .int 0])), (h1, .inr (9, [.ref h14, .int 0, .int 0])), (h14, .inl (cI, 260, .inl (fun _ => 0)))] sz)) 0 0 (va_A [(h0, .inr (10, [.ref h1, .ref h2, .ref h3, .ref h4, .ref h5, .ref h6, .ref h7, .ref h8, .ref h9, .ref h10, .ref h11, .ref h12, .ref h13, .int 0, .int (-1), .int 0, .int 0])), (h1, .inr (9, [.ref h14, .int 0, .int 0])), (h14, .inl (cI, 260, .inl (fun _ => 0)))] sz) := by
  refine Met.ofW (cc := cX10_feed) (maxL := 7) (ret := (some .int)) (by decide) rfl ?_
  intro p e s m args below meth c s₁ B hml hv
  obtain ⟨rfl, hsz, hP, hK, hT⟩ := hv
  have hx := B.exec
  have hb := B.bytes
  have hr := B.returns
  have hts : ∀ w ∈ wA, w.before _ s = true := fun w h => atoms_spec (ws := .code yX10_feed cX10_feed 7 (some .int) :: wA) B.pre w (List.mem_cons_of_mem _ h)
  have hown : s.vm.findClass RX10 = some m.cls := findClass_of_methodNamed B.named
  have hlocks := B.notSynchronized
  subst hsz
  have hD := hT.self (sz := s.heap.size)
  generalize hAe : va_A [(h0, .inr (10, [.ref h1, .ref h2, .ref h3, .ref h4, .ref h5, .ref h6, .ref h7, .ref h8, .ref h9, .ref h10, .ref h11, .ref h12, .ref h13, .int 0, .int (-1), .int 0, .int 0])), (h1, .inr (9, [.ref h14, .int 0, .int 0])), (h14, .inl (cI, 260, .inl (fun _ => 0)))] s.heap.size = A at hD ⊢
  have hA : ∀ q : Nat, s.heap.size ≤ q → A q := fun q h => by rw [← hAe]; exact Or.inr h
  have hl := lv_entry ([.ref h0, .int p0, .int p1, .int p2, .int p3, .int p4]) (n := 7) (Nat.le_of_ble_eq_true rfl)
  rw [lg_entry_eq]
  generalize (lg_sl ([.ref h0, .int p0, .int p1, .int p2, .int p3, .int p4]) ++ List.replicate (7 - (lg_sl ([.ref h0, .int p0, .int p1, .int p2, .int p3, .int p4])).length) Slot.unset).toArray = ls at hl ⊢
  have hl : lv_has ls 7 [(0, .ref h0), (1, .int p0), (2, .int p1), (3, .int p2), (4, .int p3), (5, .int p4)] := hl
  have y0 := zc4_le p0
  have y1 := zc4_le p1
  have y2 := zc4_le p2
  have y3 := zc4_le p3
  have y4 := zc4_le p4
  have yT : (nI (0 + zc4 p0 + zc4 p1 + zc4 p2 + zc4 p3 + zc4 p4)).toInt = ((0 + zc4 p0 + zc4 p1 + zc4 p2 + zc4 p3 + zc4 p4 : Nat) : Int) := nI_toInt (by omega)
  refine zstart (fun H hH => ?_)
  rw [← hH] at hP
  have hS : va_S A s.heap H [] := by rw [hH]; exact va_S.rf
  refine lv_aload_n hx hb dX10_feed_0 rfl (lv_at hl 0 rfl) ?_
  refine va_get (D := (dC, dI)) (ci := 10) (v := .ref h1) (C := RX10) (T := TX10) (N := 17) hx hb hts iX10 hown hK hP 0 rfl rfl 0 (by decide) (hts _ qw356) (fun _ h9 => h9) rfl dX10_feed_1 ?_
  refine va_get (D := (dC, dI)) (ci := 9) (v := .int 0) (C := RX9) (T := TX9) (N := 3) hx hb hts iX9 hown hK hP 1 rfl rfl 1 (by decide) (hts _ qw133) (fun _ h9 => h9) rfl dX10_feed_4 ?_
  refine lv_istore (lv' := [(6, .int 0), (0, .ref h0), (1, .int p0), (2, .int p1), (3, .int p2), (4, .int p3), (5, .int p4)]) hx hb dX10_feed_7 hl (by decide) rfl (fun ls hl => ?_)
  refine lv_aload_n hx hb dX10_feed_9 rfl (lv_at hl 1 rfl) ?_
  refine va_get (D := (dC, dI)) (ci := 10) (v := .ref h1) (C := RX10) (T := TX10) (N := 17) hx hb hts iX10 hown hK hP 0 rfl rfl 0 (by decide) (hts _ qw356) (fun _ h9 => h9) rfl dX10_feed_10 ?_
  refine lv_iload_n hx hb dX10_feed_13 rfl (lv_at hl 2 rfl) ?_
  have hPc := hP.sub (ws' := (zTp h1 h14 cI (0) 0 (fun _ => 0))) [1, 2] rfl
  have hDc := hD.sub (ws' := (zTp h1 h14 cI (0) 0 (fun _ => 0))) [1, 2] (by decide) rfl
  have hFc := va_free (wc := (zTp h1 h14 cI (0) 0 (fun _ => 0))) hD hS hA [1, 2] rfl
  refine va_callv (va_runV (As := [.int p0]) (rest := []) ⟨hx, hb, hml, hown, hts⟩ (c_add l dC dI cI cJ h1 h14 H.size (0) 0 (fun _ => 0) p0 (by omega)) (cwV 1 hts (zgV qw412 qw413 qw414 qw99 qw415) rfl rfl rfl hd_X9_add ⟨Nat.le_of_ble_eq_true rfl, Nat.le_of_ble_eq_true rfl⟩) (zPV hPc hK hDc (va_recv hK hP (ci := 9) (q0 := 1) rfl rfl)) rfl rfl hl.1 rfl (lv_room (Nat.le_of_ble_eq_true rfl)) dX10_feed_14 ⟨Nat.le_of_ble_eq_true rfl, Nat.le_of_ble_eq_true rfl⟩) hS (fun q _ h => hFc q h) hFc (fun f_1 t H locs ht hvm hw hB hz1 hk1 hS => ?_)
  obtain ⟨hP1, hD1⟩ := hB
  rw [ht] at hP1
  obtain ⟨hP, hD⟩ := va_join (wr := [(h0, .inr (10, [.ref h1, .ref h2, .ref h3, .ref h4, .ref h5, .ref h6, .ref h7, .ref h8, .ref h9, .ref h10, .ref h11, .ref h12, .ref h13, .int 0, .int (-1), .int 0, .int 0]))]) (w1 := zTp h1 h14 cI (0 + zc4 p0) 0 f_1) hP hD [1, 2] [0] rfl rfl (by decide) (by decide) hk1 hFc hP1 hD1
  have hP : va_P (dC, dI) vwCl [(h0, .inr (10, [.ref h1, .ref h2, .ref h3, .ref h4, .ref h5, .ref h6, .ref h7, .ref h8, .ref h9, .ref h10, .ref h11, .ref h12, .ref h13, .int 0, .int (-1), .int 0, .int 0])), (h1, .inr (9, [.ref h14, .int (nI (0 + zc4 p0)), .int 0])), (h14, .inl (cI, 260, .inl f_1))] H := hP
  have hD : va_D A [(h0, .inr (10, [.ref h1, .ref h2, .ref h3, .ref h4, .ref h5, .ref h6, .ref h7, .ref h8, .ref h9, .ref h10, .ref h11, .ref h12, .ref h13, .int 0, .int (-1), .int 0, .int 0])), (h1, .inr (9, [.ref h14, .int (nI (0 + zc4 p0)), .int 0])), (h14, .inl (cI, 260, .inl f_1))] := hD
  refine lv_aload_n hx hb dX10_feed_17 rfl (lv_at hl 1 rfl) ?_
  refine va_get (D := (dC, dI)) (ci := 10) (v := .ref h1) (C := RX10) (T := TX10) (N := 17) hx hb hts iX10 hown hK hP 0 rfl rfl 0 (by decide) (hts _ qw356) (fun _ h9 => h9) rfl dX10_feed_18 ?_
  refine lv_iload_n hx hb dX10_feed_21 rfl (lv_at hl 3 rfl) ?_
  have hPc := hP.sub (ws' := (zTp h1 h14 cI (0 + zc4 p0) 0 f_1)) [1, 2] rfl
  have hDc := hD.sub (ws' := (zTp h1 h14 cI (0 + zc4 p0) 0 f_1)) [1, 2] (by decide) rfl
  have hFc := va_free (wc := (zTp h1 h14 cI (0 + zc4 p0) 0 f_1)) hD hS hA [1, 2] rfl
  refine va_callv (va_runV (As := [.int p1]) (rest := []) ⟨hx, hb, hml, hown, hts⟩ (c_add l dC dI cI cJ h1 h14 H.size (0 + zc4 p0) 0 f_1 p1 (by omega)) (cwV 1 hts (zgV qw412 qw413 qw414 qw99 qw415) rfl rfl rfl hd_X9_add ⟨Nat.le_of_ble_eq_true rfl, Nat.le_of_ble_eq_true rfl⟩) (zPV hPc hK hDc (va_recv hK hP (ci := 9) (q0 := 1) rfl rfl)) rfl rfl hl.1 rfl (lv_room (Nat.le_of_ble_eq_true rfl)) dX10_feed_22 ⟨Nat.le_of_ble_eq_true rfl, Nat.le_of_ble_eq_true rfl⟩) hS (fun q _ h => hFc q h) hFc (fun f_2 t H locs ht hvm hw hB hz1 hk1 hS => ?_)
  obtain ⟨hP1, hD1⟩ := hB
  rw [ht] at hP1
  obtain ⟨hP, hD⟩ := va_join (wr := [(h0, .inr (10, [.ref h1, .ref h2, .ref h3, .ref h4, .ref h5, .ref h6, .ref h7, .ref h8, .ref h9, .ref h10, .ref h11, .ref h12, .ref h13, .int 0, .int (-1), .int 0, .int 0]))]) (w1 := zTp h1 h14 cI (0 + zc4 p0 + zc4 p1) 0 f_2) hP hD [1, 2] [0] rfl rfl (by decide) (by decide) hk1 hFc hP1 hD1
  have hP : va_P (dC, dI) vwCl [(h0, .inr (10, [.ref h1, .ref h2, .ref h3, .ref h4, .ref h5, .ref h6, .ref h7, .ref h8, .ref h9, .ref h10, .ref h11, .ref h12, .ref h13, .int 0, .int (-1), .int 0, .int 0])), (h1, .inr (9, [.ref h14, .int (nI (0 + zc4 p0 + zc4 p1)), .int 0])), (h14, .inl (cI, 260, .inl f_2))] H := hP
  have hD : va_D A [(h0, .inr (10, [.ref h1, .ref h2, .ref h3, .ref h4, .ref h5, .ref h6, .ref h7, .ref h8, .ref h9, .ref h10, .ref h11, .ref h12, .ref h13, .int 0, .int (-1), .int 0, .int 0])), (h1, .inr (9, [.ref h14, .int (nI (0 + zc4 p0 + zc4 p1)), .int 0])), (h14, .inl (cI, 260, .inl f_2))] := hD
  refine lv_aload_n hx hb dX10_feed_25 rfl (lv_at hl 1 rfl) ?_
  refine va_get (D := (dC, dI)) (ci := 10) (v := .ref h1) (C := RX10) (T := TX10) (N := 17) hx hb hts iX10 hown hK hP 0 rfl rfl 0 (by decide) (hts _ qw356) (fun _ h9 => h9) rfl dX10_feed_26 ?_
  refine lv_iload_n hx hb dX10_feed_29 rfl (lv_at hl 4 rfl) ?_
  have hPc := hP.sub (ws' := (zTp h1 h14 cI (0 + zc4 p0 + zc4 p1) 0 f_2)) [1, 2] rfl
  have hDc := hD.sub (ws' := (zTp h1 h14 cI (0 + zc4 p0 + zc4 p1) 0 f_2)) [1, 2] (by decide) rfl
  have hFc := va_free (wc := (zTp h1 h14 cI (0 + zc4 p0 + zc4 p1) 0 f_2)) hD hS hA [1, 2] rfl
  refine va_callv (va_runV (As := [.int p2]) (rest := []) ⟨hx, hb, hml, hown, hts⟩ (c_add l dC dI cI cJ h1 h14 H.size (0 + zc4 p0 + zc4 p1) 0 f_2 p2 (by omega)) (cwV 1 hts (zgV qw412 qw413 qw414 qw99 qw415) rfl rfl rfl hd_X9_add ⟨Nat.le_of_ble_eq_true rfl, Nat.le_of_ble_eq_true rfl⟩) (zPV hPc hK hDc (va_recv hK hP (ci := 9) (q0 := 1) rfl rfl)) rfl rfl hl.1 rfl (lv_room (Nat.le_of_ble_eq_true rfl)) dX10_feed_30 ⟨Nat.le_of_ble_eq_true rfl, Nat.le_of_ble_eq_true rfl⟩) hS (fun q _ h => hFc q h) hFc (fun f_3 t H locs ht hvm hw hB hz1 hk1 hS => ?_)
  obtain ⟨hP1, hD1⟩ := hB
  rw [ht] at hP1
  obtain ⟨hP, hD⟩ := va_join (wr := [(h0, .inr (10, [.ref h1, .ref h2, .ref h3, .ref h4, .ref h5, .ref h6, .ref h7, .ref h8, .ref h9, .ref h10, .ref h11, .ref h12, .ref h13, .int 0, .int (-1), .int 0, .int 0]))]) (w1 := zTp h1 h14 cI (0 + zc4 p0 + zc4 p1 + zc4 p2) 0 f_3) hP hD [1, 2] [0] rfl rfl (by decide) (by decide) hk1 hFc hP1 hD1
  have hP : va_P (dC, dI) vwCl [(h0, .inr (10, [.ref h1, .ref h2, .ref h3, .ref h4, .ref h5, .ref h6, .ref h7, .ref h8, .ref h9, .ref h10, .ref h11, .ref h12, .ref h13, .int 0, .int (-1), .int 0, .int 0])), (h1, .inr (9, [.ref h14, .int (nI (0 + zc4 p0 + zc4 p1 + zc4 p2)), .int 0])), (h14, .inl (cI, 260, .inl f_3))] H := hP
  have hD : va_D A [(h0, .inr (10, [.ref h1, .ref h2, .ref h3, .ref h4, .ref h5, .ref h6, .ref h7, .ref h8, .ref h9, .ref h10, .ref h11, .ref h12, .ref h13, .int 0, .int (-1), .int 0, .int 0])), (h1, .inr (9, [.ref h14, .int (nI (0 + zc4 p0 + zc4 p1 + zc4 p2)), .int 0])), (h14, .inl (cI, 260, .inl f_3))] := hD
  refine lv_aload_n hx hb dX10_feed_33 rfl (lv_at hl 1 rfl) ?_
  refine va_get (D := (dC, dI)) (ci := 10) (v := .ref h1) (C := RX10) (T := TX10) (N := 17) hx hb hts iX10 hown hK hP 0 rfl rfl 0 (by decide) (hts _ qw356) (fun _ h9 => h9) rfl dX10_feed_34 ?_
  refine lv_iload hx hb dX10_feed_37 (lv_at hl 5 rfl) ?_
  have hPc := hP.sub (ws' := (zTp h1 h14 cI (0 + zc4 p0 + zc4 p1 + zc4 p2) 0 f_3)) [1, 2] rfl
  have hDc := hD.sub (ws' := (zTp h1 h14 cI (0 + zc4 p0 + zc4 p1 + zc4 p2) 0 f_3)) [1, 2] (by decide) rfl
  have hFc := va_free (wc := (zTp h1 h14 cI (0 + zc4 p0 + zc4 p1 + zc4 p2) 0 f_3)) hD hS hA [1, 2] rfl
  refine va_callv (va_runV (As := [.int p3]) (rest := []) ⟨hx, hb, hml, hown, hts⟩ (c_add l dC dI cI cJ h1 h14 H.size (0 + zc4 p0 + zc4 p1 + zc4 p2) 0 f_3 p3 (by omega)) (cwV 1 hts (zgV qw412 qw413 qw414 qw99 qw415) rfl rfl rfl hd_X9_add ⟨Nat.le_of_ble_eq_true rfl, Nat.le_of_ble_eq_true rfl⟩) (zPV hPc hK hDc (va_recv hK hP (ci := 9) (q0 := 1) rfl rfl)) rfl rfl hl.1 rfl (lv_room (Nat.le_of_ble_eq_true rfl)) dX10_feed_39 ⟨Nat.le_of_ble_eq_true rfl, Nat.le_of_ble_eq_true rfl⟩) hS (fun q _ h => hFc q h) hFc (fun f_4 t H locs ht hvm hw hB hz1 hk1 hS => ?_)
  obtain ⟨hP1, hD1⟩ := hB
  rw [ht] at hP1
  obtain ⟨hP, hD⟩ := va_join (wr := [(h0, .inr (10, [.ref h1, .ref h2, .ref h3, .ref h4, .ref h5, .ref h6, .ref h7, .ref h8, .ref h9, .ref h10, .ref h11, .ref h12, .ref h13, .int 0, .int (-1), .int 0, .int 0]))]) (w1 := zTp h1 h14 cI (0 + zc4 p0 + zc4 p1 + zc4 p2 + zc4 p3) 0 f_4) hP hD [1, 2] [0] rfl rfl (by decide) (by decide) hk1 hFc hP1 hD1
  have hP : va_P (dC, dI) vwCl [(h0, .inr (10, [.ref h1, .ref h2, .ref h3, .ref h4, .ref h5, .ref h6, .ref h7, .ref h8, .ref h9, .ref h10, .ref h11, .ref h12, .ref h13, .int 0, .int (-1), .int 0, .int 0])), (h1, .inr (9, [.ref h14, .int (nI (0 + zc4 p0 + zc4 p1 + zc4 p2 + zc4 p3)), .int 0])), (h14, .inl (cI, 260, .inl f_4))] H := hP
  have hD : va_D A [(h0, .inr (10, [.ref h1, .ref h2, .ref h3, .ref h4, .ref h5, .ref h6, .ref h7, .ref h8, .ref h9, .ref h10, .ref h11, .ref h12, .ref h13, .int 0, .int (-1), .int 0, .int 0])), (h1, .inr (9, [.ref h14, .int (nI (0 + zc4 p0 + zc4 p1 + zc4 p2 + zc4 p3)), .int 0])), (h14, .inl (cI, 260, .inl f_4))] := hD
  refine lv_aload_n hx hb dX10_feed_42 rfl (lv_at hl 1 rfl) ?_
  refine va_get (D := (dC, dI)) (ci := 10) (v := .ref h1) (C := RX10) (T := TX10) (N := 17) hx hb hts iX10 hown hK hP 0 rfl rfl 0 (by decide) (hts _ qw356) (fun _ h9 => h9) rfl dX10_feed_43 ?_
  refine lv_iload hx hb dX10_feed_46 (lv_at hl 6 rfl) ?_
  have hPc := hP.sub (ws' := (zTp h1 h14 cI (0 + zc4 p0 + zc4 p1 + zc4 p2 + zc4 p3) 0 f_4)) [1, 2] rfl
  have hDc := hD.sub (ws' := (zTp h1 h14 cI (0 + zc4 p0 + zc4 p1 + zc4 p2 + zc4 p3) 0 f_4)) [1, 2] (by decide) rfl
  have hFc := va_free (wc := (zTp h1 h14 cI (0 + zc4 p0 + zc4 p1 + zc4 p2 + zc4 p3) 0 f_4)) hD hS hA [1, 2] rfl
  refine va_callv (va_runV (As := [.int p4]) (rest := []) ⟨hx, hb, hml, hown, hts⟩ (c_add l dC dI cI cJ h1 h14 H.size (0 + zc4 p0 + zc4 p1 + zc4 p2 + zc4 p3) 0 f_4 p4 (by omega)) (cwV 1 hts (zgV qw412 qw413 qw414 qw99 qw415) rfl rfl rfl hd_X9_add ⟨Nat.le_of_ble_eq_true rfl, Nat.le_of_ble_eq_true rfl⟩) (zPV hPc hK hDc (va_recv hK hP (ci := 9) (q0 := 1) rfl rfl)) rfl rfl hl.1 rfl (lv_room (Nat.le_of_ble_eq_true rfl)) dX10_feed_48 ⟨Nat.le_of_ble_eq_true rfl, Nat.le_of_ble_eq_true rfl⟩) hS (fun q _ h => hFc q h) hFc (fun f_5 t H locs ht hvm hw hB hz1 hk1 hS => ?_)
  obtain ⟨hP1, hD1⟩ := hB
  rw [ht] at hP1
  obtain ⟨hP, hD⟩ := va_join (wr := [(h0, .inr (10, [.ref h1, .ref h2, .ref h3, .ref h4, .ref h5, .ref h6, .ref h7, .ref h8, .ref h9, .ref h10, .ref h11, .ref h12, .ref h13, .int 0, .int (-1), .int 0, .int 0]))]) (w1 := zTp h1 h14 cI (0 + zc4 p0 + zc4 p1 + zc4 p2 + zc4 p3 + zc4 p4) 0 f_5) hP hD [1, 2] [0] rfl rfl (by decide) (by decide) hk1 hFc hP1 hD1
  have hP : va_P (dC, dI) vwCl [(h0, .inr (10, [.ref h1, .ref h2, .ref h3, .ref h4, .ref h5, .ref h6, .ref h7, .ref h8, .ref h9, .ref h10, .ref h11, .ref h12, .ref h13, .int 0, .int (-1), .int 0, .int 0])), (h1, .inr (9, [.ref h14, .int (nI (0 + zc4 p0 + zc4 p1 + zc4 p2 + zc4 p3 + zc4 p4)), .int 0])), (h14, .inl (cI, 260, .inl f_5))] H := hP
  have hD : va_D A [(h0, .inr (10, [.ref h1, .ref h2, .ref h3, .ref h4, .ref h5, .ref h6, .ref h7, .ref h8, .ref h9, .ref h10, .ref h11, .ref h12, .ref h13, .int 0, .int (-1), .int 0, .int 0])), (h1, .inr (9, [.ref h14, .int (nI (0 + zc4 p0 + zc4 p1 + zc4 p2 + zc4 p3 + zc4 p4)), .int 0])), (h14, .inl (cI, 260, .inl f_5))] := hD
  refine lv_aload_n hx hb dX10_feed_51 rfl (lv_at hl 1 rfl) ?_
  refine va_get (D := (dC, dI)) (ci := 10) (v := .ref h1) (C := RX10) (T := TX10) (N := 17) hx hb hts iX10 hown hK hP 0 rfl rfl 0 (by decide) (hts _ qw356) (fun _ h9 => h9) rfl dX10_feed_52 ?_
  refine va_get (D := (dC, dI)) (ci := 9) (v := .int (nI (0 + zc4 p0 + zc4 p1 + zc4 p2 + zc4 p3 + zc4 p4))) (C := RX9) (T := TX9) (N := 3) hx hb hts iX9 hown hK hP 1 rfl rfl 1 (by decide) (hts _ qw133) (fun _ h9 => h9) rfl dX10_feed_55 ?_
  refine lv_sipush (v := 240) hx hb dX10_feed_58 (by decide) ?_
  refine lv_icmp_le (tgt := 75) hx hb dX10_feed_61 (by decide) (fun c_6 => ?_) (fun c_6 => by exfalso; have i_6 : 240 < (nI (0 + zc4 p0 + zc4 p1 + zc4 p2 + zc4 p3 + zc4 p4)).toInt := z4 rfl (by decide) c_6; omega)
  have i_6 : (nI (0 + zc4 p0 + zc4 p1 + zc4 p2 + zc4 p3 + zc4 p4)).toInt ≤ 240 := z3 rfl (by decide) c_6
  refine lv_aload_n hx hb dX10_feed_75 rfl (lv_at hl 1 rfl) ?_
  refine va_get (D := (dC, dI)) (ci := 10) (v := .ref h1) (C := RX10) (T := TX10) (N := 17) hx hb hts iX10 hown hK hP 0 rfl rfl 0 (by decide) (hts _ qw356) (fun _ h9 => h9) rfl dX10_feed_76 ?_
  refine va_get (D := (dC, dI)) (ci := 9) (v := .int (nI (0 + zc4 p0 + zc4 p1 + zc4 p2 + zc4 p3 + zc4 p4))) (C := RX9) (T := TX9) (N := 3) hx hb hts iX9 hown hK hP 1 rfl rfl 1 (by decide) (hts _ qw133) (fun _ h9 => h9) rfl dX10_feed_79 ?_
  exact W.iret (v := (nI (0 + zc4 p0 + zc4 p1 + zc4 p2 + zc4 p3 + zc4 p4))) hx hb hr (fun t ht hW => ⟨⟨nI (0 + zc4 p0 + zc4 p1 + zc4 p2 + zc4 p3 + zc4 p4), (), rfl, rfl, trivial⟩, hS.F ht⟩) hS.2.2 dX10_feed_82
set_option maxHeartbeats 4000000 in
set_option maxRecDepth 100000 in
theorem c_X11_byteOf (l : Launch) (dC : Nat → ClassId) (dI : Nat → Nat → Nat) (cI cJ : ClassId) (sz : Nat) (p0 : Int32) (p1 : Int32) (p2 : Int32) (p3 : Int32) (p4 : Int32) : Met l yX11_byteOf (.code yX11_byteOf cX11_byteOf 7 (some .int) :: wA) ({ frames := 0, cells := 0, slots := 0, locals := 0 }) (zP (dC, dI) [(cI, .int), (cJ, .long)] [.int p0, .int p1, .int p2, .int p3, .int p4, .int 0] sz []) (va_Qi (fun (r : Int32) (_ : Unit) => r = (p0 >>> (24 &&& 31)) &&& 255) (fun (_ : Unit) (_ : State) => True) (va_A [] sz)) 0 0 (va_A [] sz) := by
  refine Met.ofW (cc := cX11_byteOf) (maxL := 7) (ret := (some .int)) (by decide) rfl ?_
  intro p e s m args below meth c s₁ B hml hv
  obtain ⟨rfl, hsz, hP, hK, hT⟩ := hv
  have hx := B.exec
  have hb := B.bytes
  have hr := B.returns
  have hts : ∀ w ∈ wA, w.before _ s = true := fun w h => atoms_spec (ws := .code yX11_byteOf cX11_byteOf 7 (some .int) :: wA) B.pre w (List.mem_cons_of_mem _ h)
  have hown : s.vm.findClass RX11 = some m.cls := findClass_of_methodNamed B.named
  have hlocks := B.notSynchronized
  subst hsz
  have hD : va_D (va_A [] s.heap.size) [] := zD0
  generalize hAe : va_A [] s.heap.size = A at hD ⊢
  have hA : ∀ q : Nat, s.heap.size ≤ q → A q := fun q h => by rw [← hAe]; exact Or.inr h
  have hl := lv_entry ([.int p0, .int p1, .int p2, .int p3, .int p4, .int 0]) (n := 7) (Nat.le_of_ble_eq_true rfl)
  rw [lg_entry_eq]
  generalize (lg_sl ([.int p0, .int p1, .int p2, .int p3, .int p4, .int 0]) ++ List.replicate (7 - (lg_sl ([.int p0, .int p1, .int p2, .int p3, .int p4, .int 0])).length) Slot.unset).toArray = ls at hl ⊢
  have hl : lv_has ls 7 [(0, .int p0), (1, .int p1), (2, .int p2), (3, .int p3), (4, .int p4), (5, .int 0)] := hl
  refine zstart (fun H hH => ?_)
  rw [← hH] at hP
  have hS : va_S A s.heap H [] := by rw [hH]; exact va_S.rf
  refine lv_iload hx hb dX11_byteOf_0 (lv_at hl 5 rfl) ?_
  refine lv_iconst (v := 4) hx hb dX11_byteOf_2 (by decide) ?_
  refine lv_icmp_ge (tgt := 10) hx hb dX11_byteOf_3 (by decide) (fun c => absurd c (by decide)) (fun _ => ?_)
  refine lv_iload_n hx hb dX11_byteOf_6 rfl (lv_at hl 0 rfl) ?_
  refine lv_goto (tgt := 45) hx hb dX11_byteOf_7 (by decide) ?_
  refine lv_istore (lv' := [(6, .int p0), (0, .int p0), (1, .int p1), (2, .int p2), (3, .int p3), (4, .int p4), (5, .int 0)]) hx hb dX11_byteOf_45 hl (by decide) rfl (fun ls hl => ?_)
  refine lv_iload hx hb dX11_byteOf_47 (lv_at hl 0 rfl) ?_
  refine lv_bipush (v := 24) hx hb dX11_byteOf_49 (by decide) ?_
  refine lv_bipush (v := 8) hx hb dX11_byteOf_51 (by decide) ?_
  refine lv_iload hx hb dX11_byteOf_53 (lv_at hl 6 rfl) ?_
  refine lv_iconst (v := 4) hx hb dX11_byteOf_55 (by decide) ?_
  refine lv_irem hx hb dX11_byteOf_56 (by decide) ?_
  refine lv_topi (fun v_1 ev_1 => ?_)
  obtain rfl : v_1 = 0 := ev_1.trans (by decide)
  refine lv_imul hx hb dX11_byteOf_57 ?_
  refine lv_topi (fun v_2 ev_2 => ?_)
  obtain rfl : v_2 = 0 := ev_2.trans (by decide)
  refine lv_isub hx hb dX11_byteOf_58 ?_
  refine lv_topi (fun v_3 ev_3 => ?_)
  obtain rfl : v_3 = 24 := ev_3.trans (by decide)
  refine lv_ishr hx hb dX11_byteOf_59 ?_
  refine lv_sipush (v := 255) hx hb dX11_byteOf_60 (by decide) ?_
  refine lv_iand hx hb dX11_byteOf_63 ?_
  exact W.iret (v := ((p0 >>> (24 &&& 31)) &&& 255)) hx hb hr (fun t ht hW => ⟨⟨(p0 >>> (24 &&& 31)) &&& 255, (), rfl, rfl, trivial⟩, hS.F ht⟩) hS.2.2 dX11_byteOf_64
set_option maxHeartbeats 4000000 in
set_option maxRecDepth 100000 in
theorem c_X11_byteOf_1 (l : Launch) (dC : Nat → ClassId) (dI : Nat → Nat → Nat) (cI cJ : ClassId) (sz : Nat) (p0 : Int32) (p1 : Int32) (p2 : Int32) (p3 : Int32) (p4 : Int32) : Met l yX11_byteOf (.code yX11_byteOf cX11_byteOf 7 (some .int) :: wA) ({ frames := 0, cells := 0, slots := 0, locals := 0 }) (zP (dC, dI) [(cI, .int), (cJ, .long)] [.int p0, .int p1, .int p2, .int p3, .int p4, .int 1] sz []) (va_Qi (fun (r : Int32) (_ : Unit) => r = (p0 >>> (16 &&& 31)) &&& 255) (fun (_ : Unit) (_ : State) => True) (va_A [] sz)) 0 0 (va_A [] sz) := by
  refine Met.ofW (cc := cX11_byteOf) (maxL := 7) (ret := (some .int)) (by decide) rfl ?_
  intro p e s m args below meth c s₁ B hml hv
  obtain ⟨rfl, hsz, hP, hK, hT⟩ := hv
  have hx := B.exec
  have hb := B.bytes
  have hr := B.returns
  have hts : ∀ w ∈ wA, w.before _ s = true := fun w h => atoms_spec (ws := .code yX11_byteOf cX11_byteOf 7 (some .int) :: wA) B.pre w (List.mem_cons_of_mem _ h)
  have hown : s.vm.findClass RX11 = some m.cls := findClass_of_methodNamed B.named
  have hlocks := B.notSynchronized
  subst hsz
  have hD : va_D (va_A [] s.heap.size) [] := zD0
  generalize hAe : va_A [] s.heap.size = A at hD ⊢
  have hA : ∀ q : Nat, s.heap.size ≤ q → A q := fun q h => by rw [← hAe]; exact Or.inr h
  have hl := lv_entry ([.int p0, .int p1, .int p2, .int p3, .int p4, .int 1]) (n := 7) (Nat.le_of_ble_eq_true rfl)
  rw [lg_entry_eq]
  generalize (lg_sl ([.int p0, .int p1, .int p2, .int p3, .int p4, .int 1]) ++ List.replicate (7 - (lg_sl ([.int p0, .int p1, .int p2, .int p3, .int p4, .int 1])).length) Slot.unset).toArray = ls at hl ⊢
  have hl : lv_has ls 7 [(0, .int p0), (1, .int p1), (2, .int p2), (3, .int p3), (4, .int p4), (5, .int 1)] := hl
  refine zstart (fun H hH => ?_)
  rw [← hH] at hP
  have hS : va_S A s.heap H [] := by rw [hH]; exact va_S.rf
  refine lv_iload hx hb dX11_byteOf_0 (lv_at hl 5 rfl) ?_
  refine lv_iconst (v := 4) hx hb dX11_byteOf_2 (by decide) ?_
  refine lv_icmp_ge (tgt := 10) hx hb dX11_byteOf_3 (by decide) (fun c => absurd c (by decide)) (fun _ => ?_)
  refine lv_iload_n hx hb dX11_byteOf_6 rfl (lv_at hl 0 rfl) ?_
  refine lv_goto (tgt := 45) hx hb dX11_byteOf_7 (by decide) ?_
  refine lv_istore (lv' := [(6, .int p0), (0, .int p0), (1, .int p1), (2, .int p2), (3, .int p3), (4, .int p4), (5, .int 1)]) hx hb dX11_byteOf_45 hl (by decide) rfl (fun ls hl => ?_)
  refine lv_iload hx hb dX11_byteOf_47 (lv_at hl 0 rfl) ?_
  refine lv_bipush (v := 24) hx hb dX11_byteOf_49 (by decide) ?_
  refine lv_bipush (v := 8) hx hb dX11_byteOf_51 (by decide) ?_
  refine lv_iload hx hb dX11_byteOf_53 (lv_at hl 6 rfl) ?_
  refine lv_iconst (v := 4) hx hb dX11_byteOf_55 (by decide) ?_
  refine lv_irem hx hb dX11_byteOf_56 (by decide) ?_
  refine lv_topi (fun v_1 ev_1 => ?_)
  obtain rfl : v_1 = 1 := ev_1.trans (by decide)
  refine lv_imul hx hb dX11_byteOf_57 ?_
  refine lv_topi (fun v_2 ev_2 => ?_)
  obtain rfl : v_2 = 8 := ev_2.trans (by decide)
  refine lv_isub hx hb dX11_byteOf_58 ?_
  refine lv_topi (fun v_3 ev_3 => ?_)
  obtain rfl : v_3 = 16 := ev_3.trans (by decide)
  refine lv_ishr hx hb dX11_byteOf_59 ?_
  refine lv_sipush (v := 255) hx hb dX11_byteOf_60 (by decide) ?_
  refine lv_iand hx hb dX11_byteOf_63 ?_
  exact W.iret (v := ((p0 >>> (16 &&& 31)) &&& 255)) hx hb hr (fun t ht hW => ⟨⟨(p0 >>> (16 &&& 31)) &&& 255, (), rfl, rfl, trivial⟩, hS.F ht⟩) hS.2.2 dX11_byteOf_64
set_option maxHeartbeats 4000000 in
set_option maxRecDepth 100000 in
theorem c_X11_byteOf_2 (l : Launch) (dC : Nat → ClassId) (dI : Nat → Nat → Nat) (cI cJ : ClassId) (sz : Nat) (p0 : Int32) (p1 : Int32) (p2 : Int32) (p3 : Int32) (p4 : Int32) : Met l yX11_byteOf (.code yX11_byteOf cX11_byteOf 7 (some .int) :: wA) ({ frames := 0, cells := 0, slots := 0, locals := 0 }) (zP (dC, dI) [(cI, .int), (cJ, .long)] [.int p0, .int p1, .int p2, .int p3, .int p4, .int 2] sz []) (va_Qi (fun (r : Int32) (_ : Unit) => r = (p0 >>> (8 &&& 31)) &&& 255) (fun (_ : Unit) (_ : State) => True) (va_A [] sz)) 0 0 (va_A [] sz) := by
  refine Met.ofW (cc := cX11_byteOf) (maxL := 7) (ret := (some .int)) (by decide) rfl ?_
  intro p e s m args below meth c s₁ B hml hv
  obtain ⟨rfl, hsz, hP, hK, hT⟩ := hv
  have hx := B.exec
  have hb := B.bytes
  have hr := B.returns
  have hts : ∀ w ∈ wA, w.before _ s = true := fun w h => atoms_spec (ws := .code yX11_byteOf cX11_byteOf 7 (some .int) :: wA) B.pre w (List.mem_cons_of_mem _ h)
  have hown : s.vm.findClass RX11 = some m.cls := findClass_of_methodNamed B.named
  have hlocks := B.notSynchronized
  subst hsz
  have hD : va_D (va_A [] s.heap.size) [] := zD0
  generalize hAe : va_A [] s.heap.size = A at hD ⊢
  have hA : ∀ q : Nat, s.heap.size ≤ q → A q := fun q h => by rw [← hAe]; exact Or.inr h
  have hl := lv_entry ([.int p0, .int p1, .int p2, .int p3, .int p4, .int 2]) (n := 7) (Nat.le_of_ble_eq_true rfl)
  rw [lg_entry_eq]
  generalize (lg_sl ([.int p0, .int p1, .int p2, .int p3, .int p4, .int 2]) ++ List.replicate (7 - (lg_sl ([.int p0, .int p1, .int p2, .int p3, .int p4, .int 2])).length) Slot.unset).toArray = ls at hl ⊢
  have hl : lv_has ls 7 [(0, .int p0), (1, .int p1), (2, .int p2), (3, .int p3), (4, .int p4), (5, .int 2)] := hl
  refine zstart (fun H hH => ?_)
  rw [← hH] at hP
  have hS : va_S A s.heap H [] := by rw [hH]; exact va_S.rf
  refine lv_iload hx hb dX11_byteOf_0 (lv_at hl 5 rfl) ?_
  refine lv_iconst (v := 4) hx hb dX11_byteOf_2 (by decide) ?_
  refine lv_icmp_ge (tgt := 10) hx hb dX11_byteOf_3 (by decide) (fun c => absurd c (by decide)) (fun _ => ?_)
  refine lv_iload_n hx hb dX11_byteOf_6 rfl (lv_at hl 0 rfl) ?_
  refine lv_goto (tgt := 45) hx hb dX11_byteOf_7 (by decide) ?_
  refine lv_istore (lv' := [(6, .int p0), (0, .int p0), (1, .int p1), (2, .int p2), (3, .int p3), (4, .int p4), (5, .int 2)]) hx hb dX11_byteOf_45 hl (by decide) rfl (fun ls hl => ?_)
  refine lv_iload hx hb dX11_byteOf_47 (lv_at hl 0 rfl) ?_
  refine lv_bipush (v := 24) hx hb dX11_byteOf_49 (by decide) ?_
  refine lv_bipush (v := 8) hx hb dX11_byteOf_51 (by decide) ?_
  refine lv_iload hx hb dX11_byteOf_53 (lv_at hl 6 rfl) ?_
  refine lv_iconst (v := 4) hx hb dX11_byteOf_55 (by decide) ?_
  refine lv_irem hx hb dX11_byteOf_56 (by decide) ?_
  refine lv_topi (fun v_1 ev_1 => ?_)
  obtain rfl : v_1 = 2 := ev_1.trans (by decide)
  refine lv_imul hx hb dX11_byteOf_57 ?_
  refine lv_topi (fun v_2 ev_2 => ?_)
  obtain rfl : v_2 = 16 := ev_2.trans (by decide)
  refine lv_isub hx hb dX11_byteOf_58 ?_
  refine lv_topi (fun v_3 ev_3 => ?_)
  obtain rfl : v_3 = 8 := ev_3.trans (by decide)
  refine lv_ishr hx hb dX11_byteOf_59 ?_
  refine lv_sipush (v := 255) hx hb dX11_byteOf_60 (by decide) ?_
  refine lv_iand hx hb dX11_byteOf_63 ?_
  exact W.iret (v := ((p0 >>> (8 &&& 31)) &&& 255)) hx hb hr (fun t ht hW => ⟨⟨(p0 >>> (8 &&& 31)) &&& 255, (), rfl, rfl, trivial⟩, hS.F ht⟩) hS.2.2 dX11_byteOf_64
set_option maxHeartbeats 4000000 in
set_option maxRecDepth 100000 in
theorem c_X11_byteOf_3 (l : Launch) (dC : Nat → ClassId) (dI : Nat → Nat → Nat) (cI cJ : ClassId) (sz : Nat) (p0 : Int32) (p1 : Int32) (p2 : Int32) (p3 : Int32) (p4 : Int32) : Met l yX11_byteOf (.code yX11_byteOf cX11_byteOf 7 (some .int) :: wA) ({ frames := 0, cells := 0, slots := 0, locals := 0 }) (zP (dC, dI) [(cI, .int), (cJ, .long)] [.int p0, .int p1, .int p2, .int p3, .int p4, .int 3] sz []) (va_Qi (fun (r : Int32) (_ : Unit) => r = (p0 >>> (0 &&& 31)) &&& 255) (fun (_ : Unit) (_ : State) => True) (va_A [] sz)) 0 0 (va_A [] sz) := by
  refine Met.ofW (cc := cX11_byteOf) (maxL := 7) (ret := (some .int)) (by decide) rfl ?_
  intro p e s m args below meth c s₁ B hml hv
  obtain ⟨rfl, hsz, hP, hK, hT⟩ := hv
  have hx := B.exec
  have hb := B.bytes
  have hr := B.returns
  have hts : ∀ w ∈ wA, w.before _ s = true := fun w h => atoms_spec (ws := .code yX11_byteOf cX11_byteOf 7 (some .int) :: wA) B.pre w (List.mem_cons_of_mem _ h)
  have hown : s.vm.findClass RX11 = some m.cls := findClass_of_methodNamed B.named
  have hlocks := B.notSynchronized
  subst hsz
  have hD : va_D (va_A [] s.heap.size) [] := zD0
  generalize hAe : va_A [] s.heap.size = A at hD ⊢
  have hA : ∀ q : Nat, s.heap.size ≤ q → A q := fun q h => by rw [← hAe]; exact Or.inr h
  have hl := lv_entry ([.int p0, .int p1, .int p2, .int p3, .int p4, .int 3]) (n := 7) (Nat.le_of_ble_eq_true rfl)
  rw [lg_entry_eq]
  generalize (lg_sl ([.int p0, .int p1, .int p2, .int p3, .int p4, .int 3]) ++ List.replicate (7 - (lg_sl ([.int p0, .int p1, .int p2, .int p3, .int p4, .int 3])).length) Slot.unset).toArray = ls at hl ⊢
  have hl : lv_has ls 7 [(0, .int p0), (1, .int p1), (2, .int p2), (3, .int p3), (4, .int p4), (5, .int 3)] := hl
  refine zstart (fun H hH => ?_)
  rw [← hH] at hP
  have hS : va_S A s.heap H [] := by rw [hH]; exact va_S.rf
  refine lv_iload hx hb dX11_byteOf_0 (lv_at hl 5 rfl) ?_
  refine lv_iconst (v := 4) hx hb dX11_byteOf_2 (by decide) ?_
  refine lv_icmp_ge (tgt := 10) hx hb dX11_byteOf_3 (by decide) (fun c => absurd c (by decide)) (fun _ => ?_)
  refine lv_iload_n hx hb dX11_byteOf_6 rfl (lv_at hl 0 rfl) ?_
  refine lv_goto (tgt := 45) hx hb dX11_byteOf_7 (by decide) ?_
  refine lv_istore (lv' := [(6, .int p0), (0, .int p0), (1, .int p1), (2, .int p2), (3, .int p3), (4, .int p4), (5, .int 3)]) hx hb dX11_byteOf_45 hl (by decide) rfl (fun ls hl => ?_)
  refine lv_iload hx hb dX11_byteOf_47 (lv_at hl 0 rfl) ?_
  refine lv_bipush (v := 24) hx hb dX11_byteOf_49 (by decide) ?_
  refine lv_bipush (v := 8) hx hb dX11_byteOf_51 (by decide) ?_
  refine lv_iload hx hb dX11_byteOf_53 (lv_at hl 6 rfl) ?_
  refine lv_iconst (v := 4) hx hb dX11_byteOf_55 (by decide) ?_
  refine lv_irem hx hb dX11_byteOf_56 (by decide) ?_
  refine lv_topi (fun v_1 ev_1 => ?_)
  obtain rfl : v_1 = 3 := ev_1.trans (by decide)
  refine lv_imul hx hb dX11_byteOf_57 ?_
  refine lv_topi (fun v_2 ev_2 => ?_)
  obtain rfl : v_2 = 24 := ev_2.trans (by decide)
  refine lv_isub hx hb dX11_byteOf_58 ?_
  refine lv_topi (fun v_3 ev_3 => ?_)
  obtain rfl : v_3 = 0 := ev_3.trans (by decide)
  refine lv_ishr hx hb dX11_byteOf_59 ?_
  refine lv_sipush (v := 255) hx hb dX11_byteOf_60 (by decide) ?_
  refine lv_iand hx hb dX11_byteOf_63 ?_
  exact W.iret (v := ((p0 >>> (0 &&& 31)) &&& 255)) hx hb hr (fun t ht hW => ⟨⟨(p0 >>> (0 &&& 31)) &&& 255, (), rfl, rfl, trivial⟩, hS.F ht⟩) hS.2.2 dX11_byteOf_64
set_option maxHeartbeats 4000000 in
set_option maxRecDepth 100000 in
theorem c_X11_byteOf_4 (l : Launch) (dC : Nat → ClassId) (dI : Nat → Nat → Nat) (cI cJ : ClassId) (sz : Nat) (p0 : Int32) (p1 : Int32) (p2 : Int32) (p3 : Int32) (p4 : Int32) : Met l yX11_byteOf (.code yX11_byteOf cX11_byteOf 7 (some .int) :: wA) ({ frames := 0, cells := 0, slots := 0, locals := 0 }) (zP (dC, dI) [(cI, .int), (cJ, .long)] [.int p0, .int p1, .int p2, .int p3, .int p4, .int 4] sz []) (va_Qi (fun (r : Int32) (_ : Unit) => r = (p1 >>> (24 &&& 31)) &&& 255) (fun (_ : Unit) (_ : State) => True) (va_A [] sz)) 0 0 (va_A [] sz) := by
  refine Met.ofW (cc := cX11_byteOf) (maxL := 7) (ret := (some .int)) (by decide) rfl ?_
  intro p e s m args below meth c s₁ B hml hv
  obtain ⟨rfl, hsz, hP, hK, hT⟩ := hv
  have hx := B.exec
  have hb := B.bytes
  have hr := B.returns
  have hts : ∀ w ∈ wA, w.before _ s = true := fun w h => atoms_spec (ws := .code yX11_byteOf cX11_byteOf 7 (some .int) :: wA) B.pre w (List.mem_cons_of_mem _ h)
  have hown : s.vm.findClass RX11 = some m.cls := findClass_of_methodNamed B.named
  have hlocks := B.notSynchronized
  subst hsz
  have hD : va_D (va_A [] s.heap.size) [] := zD0
  generalize hAe : va_A [] s.heap.size = A at hD ⊢
  have hA : ∀ q : Nat, s.heap.size ≤ q → A q := fun q h => by rw [← hAe]; exact Or.inr h
  have hl := lv_entry ([.int p0, .int p1, .int p2, .int p3, .int p4, .int 4]) (n := 7) (Nat.le_of_ble_eq_true rfl)
  rw [lg_entry_eq]
  generalize (lg_sl ([.int p0, .int p1, .int p2, .int p3, .int p4, .int 4]) ++ List.replicate (7 - (lg_sl ([.int p0, .int p1, .int p2, .int p3, .int p4, .int 4])).length) Slot.unset).toArray = ls at hl ⊢
  have hl : lv_has ls 7 [(0, .int p0), (1, .int p1), (2, .int p2), (3, .int p3), (4, .int p4), (5, .int 4)] := hl
  refine zstart (fun H hH => ?_)
  rw [← hH] at hP
  have hS : va_S A s.heap H [] := by rw [hH]; exact va_S.rf
  refine lv_iload hx hb dX11_byteOf_0 (lv_at hl 5 rfl) ?_
  refine lv_iconst (v := 4) hx hb dX11_byteOf_2 (by decide) ?_
  refine lv_icmp_ge (tgt := 10) hx hb dX11_byteOf_3 (by decide) (fun _ => ?_) (fun c => absurd (by decide) c)
  refine lv_iload hx hb dX11_byteOf_10 (lv_at hl 5 rfl) ?_
  refine lv_bipush (v := 8) hx hb dX11_byteOf_12 (by decide) ?_
  refine lv_icmp_ge (tgt := 21) hx hb dX11_byteOf_14 (by decide) (fun c => absurd c (by decide)) (fun _ => ?_)
  refine lv_iload_n hx hb dX11_byteOf_17 rfl (lv_at hl 1 rfl) ?_
  refine lv_goto (tgt := 45) hx hb dX11_byteOf_18 (by decide) ?_
  refine lv_istore (lv' := [(6, .int p1), (0, .int p0), (1, .int p1), (2, .int p2), (3, .int p3), (4, .int p4), (5, .int 4)]) hx hb dX11_byteOf_45 hl (by decide) rfl (fun ls hl => ?_)
  refine lv_iload hx hb dX11_byteOf_47 (lv_at hl 0 rfl) ?_
  refine lv_bipush (v := 24) hx hb dX11_byteOf_49 (by decide) ?_
  refine lv_bipush (v := 8) hx hb dX11_byteOf_51 (by decide) ?_
  refine lv_iload hx hb dX11_byteOf_53 (lv_at hl 6 rfl) ?_
  refine lv_iconst (v := 4) hx hb dX11_byteOf_55 (by decide) ?_
  refine lv_irem hx hb dX11_byteOf_56 (by decide) ?_
  refine lv_topi (fun v_1 ev_1 => ?_)
  obtain rfl : v_1 = 0 := ev_1.trans (by decide)
  refine lv_imul hx hb dX11_byteOf_57 ?_
  refine lv_topi (fun v_2 ev_2 => ?_)
  obtain rfl : v_2 = 0 := ev_2.trans (by decide)
  refine lv_isub hx hb dX11_byteOf_58 ?_
  refine lv_topi (fun v_3 ev_3 => ?_)
  obtain rfl : v_3 = 24 := ev_3.trans (by decide)
  refine lv_ishr hx hb dX11_byteOf_59 ?_
  refine lv_sipush (v := 255) hx hb dX11_byteOf_60 (by decide) ?_
  refine lv_iand hx hb dX11_byteOf_63 ?_
  exact W.iret (v := ((p1 >>> (24 &&& 31)) &&& 255)) hx hb hr (fun t ht hW => ⟨⟨(p1 >>> (24 &&& 31)) &&& 255, (), rfl, rfl, trivial⟩, hS.F ht⟩) hS.2.2 dX11_byteOf_64
set_option maxHeartbeats 4000000 in
set_option maxRecDepth 100000 in
theorem c_X11_byteOf_5 (l : Launch) (dC : Nat → ClassId) (dI : Nat → Nat → Nat) (cI cJ : ClassId) (sz : Nat) (p0 : Int32) (p1 : Int32) (p2 : Int32) (p3 : Int32) (p4 : Int32) : Met l yX11_byteOf (.code yX11_byteOf cX11_byteOf 7 (some .int) :: wA) ({ frames := 0, cells := 0, slots := 0, locals := 0 }) (zP (dC, dI) [(cI, .int), (cJ, .long)] [.int p0, .int p1, .int p2, .int p3, .int p4, .int 5] sz []) (va_Qi (fun (r : Int32) (_ : Unit) => r = (p1 >>> (16 &&& 31)) &&& 255) (fun (_ : Unit) (_ : State) => True) (va_A [] sz)) 0 0 (va_A [] sz) := by
  refine Met.ofW (cc := cX11_byteOf) (maxL := 7) (ret := (some .int)) (by decide) rfl ?_
  intro p e s m args below meth c s₁ B hml hv
  obtain ⟨rfl, hsz, hP, hK, hT⟩ := hv
  have hx := B.exec
  have hb := B.bytes
  have hr := B.returns
  have hts : ∀ w ∈ wA, w.before _ s = true := fun w h => atoms_spec (ws := .code yX11_byteOf cX11_byteOf 7 (some .int) :: wA) B.pre w (List.mem_cons_of_mem _ h)
  have hown : s.vm.findClass RX11 = some m.cls := findClass_of_methodNamed B.named
  have hlocks := B.notSynchronized
  subst hsz
  have hD : va_D (va_A [] s.heap.size) [] := zD0
  generalize hAe : va_A [] s.heap.size = A at hD ⊢
  have hA : ∀ q : Nat, s.heap.size ≤ q → A q := fun q h => by rw [← hAe]; exact Or.inr h
  have hl := lv_entry ([.int p0, .int p1, .int p2, .int p3, .int p4, .int 5]) (n := 7) (Nat.le_of_ble_eq_true rfl)
  rw [lg_entry_eq]
  generalize (lg_sl ([.int p0, .int p1, .int p2, .int p3, .int p4, .int 5]) ++ List.replicate (7 - (lg_sl ([.int p0, .int p1, .int p2, .int p3, .int p4, .int 5])).length) Slot.unset).toArray = ls at hl ⊢
  have hl : lv_has ls 7 [(0, .int p0), (1, .int p1), (2, .int p2), (3, .int p3), (4, .int p4), (5, .int 5)] := hl
  refine zstart (fun H hH => ?_)
  rw [← hH] at hP
  have hS : va_S A s.heap H [] := by rw [hH]; exact va_S.rf
  refine lv_iload hx hb dX11_byteOf_0 (lv_at hl 5 rfl) ?_
  refine lv_iconst (v := 4) hx hb dX11_byteOf_2 (by decide) ?_
  refine lv_icmp_ge (tgt := 10) hx hb dX11_byteOf_3 (by decide) (fun _ => ?_) (fun c => absurd (by decide) c)
  refine lv_iload hx hb dX11_byteOf_10 (lv_at hl 5 rfl) ?_
  refine lv_bipush (v := 8) hx hb dX11_byteOf_12 (by decide) ?_
  refine lv_icmp_ge (tgt := 21) hx hb dX11_byteOf_14 (by decide) (fun c => absurd c (by decide)) (fun _ => ?_)
  refine lv_iload_n hx hb dX11_byteOf_17 rfl (lv_at hl 1 rfl) ?_
  refine lv_goto (tgt := 45) hx hb dX11_byteOf_18 (by decide) ?_
  refine lv_istore (lv' := [(6, .int p1), (0, .int p0), (1, .int p1), (2, .int p2), (3, .int p3), (4, .int p4), (5, .int 5)]) hx hb dX11_byteOf_45 hl (by decide) rfl (fun ls hl => ?_)
  refine lv_iload hx hb dX11_byteOf_47 (lv_at hl 0 rfl) ?_
  refine lv_bipush (v := 24) hx hb dX11_byteOf_49 (by decide) ?_
  refine lv_bipush (v := 8) hx hb dX11_byteOf_51 (by decide) ?_
  refine lv_iload hx hb dX11_byteOf_53 (lv_at hl 6 rfl) ?_
  refine lv_iconst (v := 4) hx hb dX11_byteOf_55 (by decide) ?_
  refine lv_irem hx hb dX11_byteOf_56 (by decide) ?_
  refine lv_topi (fun v_1 ev_1 => ?_)
  obtain rfl : v_1 = 1 := ev_1.trans (by decide)
  refine lv_imul hx hb dX11_byteOf_57 ?_
  refine lv_topi (fun v_2 ev_2 => ?_)
  obtain rfl : v_2 = 8 := ev_2.trans (by decide)
  refine lv_isub hx hb dX11_byteOf_58 ?_
  refine lv_topi (fun v_3 ev_3 => ?_)
  obtain rfl : v_3 = 16 := ev_3.trans (by decide)
  refine lv_ishr hx hb dX11_byteOf_59 ?_
  refine lv_sipush (v := 255) hx hb dX11_byteOf_60 (by decide) ?_
  refine lv_iand hx hb dX11_byteOf_63 ?_
  exact W.iret (v := ((p1 >>> (16 &&& 31)) &&& 255)) hx hb hr (fun t ht hW => ⟨⟨(p1 >>> (16 &&& 31)) &&& 255, (), rfl, rfl, trivial⟩, hS.F ht⟩) hS.2.2 dX11_byteOf_64
set_option maxHeartbeats 4000000 in
set_option maxRecDepth 100000 in
theorem c_X11_byteOf_6 (l : Launch) (dC : Nat → ClassId) (dI : Nat → Nat → Nat) (cI cJ : ClassId) (sz : Nat) (p0 : Int32) (p1 : Int32) (p2 : Int32) (p3 : Int32) (p4 : Int32) : Met l yX11_byteOf (.code yX11_byteOf cX11_byteOf 7 (some .int) :: wA) ({ frames := 0, cells := 0, slots := 0, locals := 0 }) (zP (dC, dI) [(cI, .int), (cJ, .long)] [.int p0, .int p1, .int p2, .int p3, .int p4, .int 6] sz []) (va_Qi (fun (r : Int32) (_ : Unit) => r = (p1 >>> (8 &&& 31)) &&& 255) (fun (_ : Unit) (_ : State) => True) (va_A [] sz)) 0 0 (va_A [] sz) := by
  refine Met.ofW (cc := cX11_byteOf) (maxL := 7) (ret := (some .int)) (by decide) rfl ?_
  intro p e s m args below meth c s₁ B hml hv
  obtain ⟨rfl, hsz, hP, hK, hT⟩ := hv
  have hx := B.exec
  have hb := B.bytes
  have hr := B.returns
  have hts : ∀ w ∈ wA, w.before _ s = true := fun w h => atoms_spec (ws := .code yX11_byteOf cX11_byteOf 7 (some .int) :: wA) B.pre w (List.mem_cons_of_mem _ h)
  have hown : s.vm.findClass RX11 = some m.cls := findClass_of_methodNamed B.named
  have hlocks := B.notSynchronized
  subst hsz
  have hD : va_D (va_A [] s.heap.size) [] := zD0
  generalize hAe : va_A [] s.heap.size = A at hD ⊢
  have hA : ∀ q : Nat, s.heap.size ≤ q → A q := fun q h => by rw [← hAe]; exact Or.inr h
  have hl := lv_entry ([.int p0, .int p1, .int p2, .int p3, .int p4, .int 6]) (n := 7) (Nat.le_of_ble_eq_true rfl)
  rw [lg_entry_eq]
  generalize (lg_sl ([.int p0, .int p1, .int p2, .int p3, .int p4, .int 6]) ++ List.replicate (7 - (lg_sl ([.int p0, .int p1, .int p2, .int p3, .int p4, .int 6])).length) Slot.unset).toArray = ls at hl ⊢
  have hl : lv_has ls 7 [(0, .int p0), (1, .int p1), (2, .int p2), (3, .int p3), (4, .int p4), (5, .int 6)] := hl
  refine zstart (fun H hH => ?_)
  rw [← hH] at hP
  have hS : va_S A s.heap H [] := by rw [hH]; exact va_S.rf
  refine lv_iload hx hb dX11_byteOf_0 (lv_at hl 5 rfl) ?_
  refine lv_iconst (v := 4) hx hb dX11_byteOf_2 (by decide) ?_
  refine lv_icmp_ge (tgt := 10) hx hb dX11_byteOf_3 (by decide) (fun _ => ?_) (fun c => absurd (by decide) c)
  refine lv_iload hx hb dX11_byteOf_10 (lv_at hl 5 rfl) ?_
  refine lv_bipush (v := 8) hx hb dX11_byteOf_12 (by decide) ?_
  refine lv_icmp_ge (tgt := 21) hx hb dX11_byteOf_14 (by decide) (fun c => absurd c (by decide)) (fun _ => ?_)
  refine lv_iload_n hx hb dX11_byteOf_17 rfl (lv_at hl 1 rfl) ?_
  refine lv_goto (tgt := 45) hx hb dX11_byteOf_18 (by decide) ?_
  refine lv_istore (lv' := [(6, .int p1), (0, .int p0), (1, .int p1), (2, .int p2), (3, .int p3), (4, .int p4), (5, .int 6)]) hx hb dX11_byteOf_45 hl (by decide) rfl (fun ls hl => ?_)
  refine lv_iload hx hb dX11_byteOf_47 (lv_at hl 0 rfl) ?_
  refine lv_bipush (v := 24) hx hb dX11_byteOf_49 (by decide) ?_
  refine lv_bipush (v := 8) hx hb dX11_byteOf_51 (by decide) ?_
  refine lv_iload hx hb dX11_byteOf_53 (lv_at hl 6 rfl) ?_
  refine lv_iconst (v := 4) hx hb dX11_byteOf_55 (by decide) ?_
  refine lv_irem hx hb dX11_byteOf_56 (by decide) ?_
  refine lv_topi (fun v_1 ev_1 => ?_)
  obtain rfl : v_1 = 2 := ev_1.trans (by decide)
  refine lv_imul hx hb dX11_byteOf_57 ?_
  refine lv_topi (fun v_2 ev_2 => ?_)
  obtain rfl : v_2 = 16 := ev_2.trans (by decide)
  refine lv_isub hx hb dX11_byteOf_58 ?_
  refine lv_topi (fun v_3 ev_3 => ?_)
  obtain rfl : v_3 = 8 := ev_3.trans (by decide)
  refine lv_ishr hx hb dX11_byteOf_59 ?_
  refine lv_sipush (v := 255) hx hb dX11_byteOf_60 (by decide) ?_
  refine lv_iand hx hb dX11_byteOf_63 ?_
  exact W.iret (v := ((p1 >>> (8 &&& 31)) &&& 255)) hx hb hr (fun t ht hW => ⟨⟨(p1 >>> (8 &&& 31)) &&& 255, (), rfl, rfl, trivial⟩, hS.F ht⟩) hS.2.2 dX11_byteOf_64
set_option maxHeartbeats 4000000 in
set_option maxRecDepth 100000 in
theorem c_X11_byteOf_7 (l : Launch) (dC : Nat → ClassId) (dI : Nat → Nat → Nat) (cI cJ : ClassId) (sz : Nat) (p0 : Int32) (p1 : Int32) (p2 : Int32) (p3 : Int32) (p4 : Int32) : Met l yX11_byteOf (.code yX11_byteOf cX11_byteOf 7 (some .int) :: wA) ({ frames := 0, cells := 0, slots := 0, locals := 0 }) (zP (dC, dI) [(cI, .int), (cJ, .long)] [.int p0, .int p1, .int p2, .int p3, .int p4, .int 7] sz []) (va_Qi (fun (r : Int32) (_ : Unit) => r = (p1 >>> (0 &&& 31)) &&& 255) (fun (_ : Unit) (_ : State) => True) (va_A [] sz)) 0 0 (va_A [] sz) := by
  refine Met.ofW (cc := cX11_byteOf) (maxL := 7) (ret := (some .int)) (by decide) rfl ?_
  intro p e s m args below meth c s₁ B hml hv
  obtain ⟨rfl, hsz, hP, hK, hT⟩ := hv
  have hx := B.exec
  have hb := B.bytes
  have hr := B.returns
  have hts : ∀ w ∈ wA, w.before _ s = true := fun w h => atoms_spec (ws := .code yX11_byteOf cX11_byteOf 7 (some .int) :: wA) B.pre w (List.mem_cons_of_mem _ h)
  have hown : s.vm.findClass RX11 = some m.cls := findClass_of_methodNamed B.named
  have hlocks := B.notSynchronized
  subst hsz
  have hD : va_D (va_A [] s.heap.size) [] := zD0
  generalize hAe : va_A [] s.heap.size = A at hD ⊢
  have hA : ∀ q : Nat, s.heap.size ≤ q → A q := fun q h => by rw [← hAe]; exact Or.inr h
  have hl := lv_entry ([.int p0, .int p1, .int p2, .int p3, .int p4, .int 7]) (n := 7) (Nat.le_of_ble_eq_true rfl)
  rw [lg_entry_eq]
  generalize (lg_sl ([.int p0, .int p1, .int p2, .int p3, .int p4, .int 7]) ++ List.replicate (7 - (lg_sl ([.int p0, .int p1, .int p2, .int p3, .int p4, .int 7])).length) Slot.unset).toArray = ls at hl ⊢
  have hl : lv_has ls 7 [(0, .int p0), (1, .int p1), (2, .int p2), (3, .int p3), (4, .int p4), (5, .int 7)] := hl
  refine zstart (fun H hH => ?_)
  rw [← hH] at hP
  have hS : va_S A s.heap H [] := by rw [hH]; exact va_S.rf
  refine lv_iload hx hb dX11_byteOf_0 (lv_at hl 5 rfl) ?_
  refine lv_iconst (v := 4) hx hb dX11_byteOf_2 (by decide) ?_
  refine lv_icmp_ge (tgt := 10) hx hb dX11_byteOf_3 (by decide) (fun _ => ?_) (fun c => absurd (by decide) c)
  refine lv_iload hx hb dX11_byteOf_10 (lv_at hl 5 rfl) ?_
  refine lv_bipush (v := 8) hx hb dX11_byteOf_12 (by decide) ?_
  refine lv_icmp_ge (tgt := 21) hx hb dX11_byteOf_14 (by decide) (fun c => absurd c (by decide)) (fun _ => ?_)
  refine lv_iload_n hx hb dX11_byteOf_17 rfl (lv_at hl 1 rfl) ?_
  refine lv_goto (tgt := 45) hx hb dX11_byteOf_18 (by decide) ?_
  refine lv_istore (lv' := [(6, .int p1), (0, .int p0), (1, .int p1), (2, .int p2), (3, .int p3), (4, .int p4), (5, .int 7)]) hx hb dX11_byteOf_45 hl (by decide) rfl (fun ls hl => ?_)
  refine lv_iload hx hb dX11_byteOf_47 (lv_at hl 0 rfl) ?_
  refine lv_bipush (v := 24) hx hb dX11_byteOf_49 (by decide) ?_
  refine lv_bipush (v := 8) hx hb dX11_byteOf_51 (by decide) ?_
  refine lv_iload hx hb dX11_byteOf_53 (lv_at hl 6 rfl) ?_
  refine lv_iconst (v := 4) hx hb dX11_byteOf_55 (by decide) ?_
  refine lv_irem hx hb dX11_byteOf_56 (by decide) ?_
  refine lv_topi (fun v_1 ev_1 => ?_)
  obtain rfl : v_1 = 3 := ev_1.trans (by decide)
  refine lv_imul hx hb dX11_byteOf_57 ?_
  refine lv_topi (fun v_2 ev_2 => ?_)
  obtain rfl : v_2 = 24 := ev_2.trans (by decide)
  refine lv_isub hx hb dX11_byteOf_58 ?_
  refine lv_topi (fun v_3 ev_3 => ?_)
  obtain rfl : v_3 = 0 := ev_3.trans (by decide)
  refine lv_ishr hx hb dX11_byteOf_59 ?_
  refine lv_sipush (v := 255) hx hb dX11_byteOf_60 (by decide) ?_
  refine lv_iand hx hb dX11_byteOf_63 ?_
  exact W.iret (v := ((p1 >>> (0 &&& 31)) &&& 255)) hx hb hr (fun t ht hW => ⟨⟨(p1 >>> (0 &&& 31)) &&& 255, (), rfl, rfl, trivial⟩, hS.F ht⟩) hS.2.2 dX11_byteOf_64
set_option maxHeartbeats 4000000 in
set_option maxRecDepth 100000 in
theorem c_X11_byteOf_8 (l : Launch) (dC : Nat → ClassId) (dI : Nat → Nat → Nat) (cI cJ : ClassId) (sz : Nat) (p0 : Int32) (p1 : Int32) (p2 : Int32) (p3 : Int32) (p4 : Int32) : Met l yX11_byteOf (.code yX11_byteOf cX11_byteOf 7 (some .int) :: wA) ({ frames := 0, cells := 0, slots := 0, locals := 0 }) (zP (dC, dI) [(cI, .int), (cJ, .long)] [.int p0, .int p1, .int p2, .int p3, .int p4, .int 8] sz []) (va_Qi (fun (r : Int32) (_ : Unit) => r = (p2 >>> (24 &&& 31)) &&& 255) (fun (_ : Unit) (_ : State) => True) (va_A [] sz)) 0 0 (va_A [] sz) := by
  refine Met.ofW (cc := cX11_byteOf) (maxL := 7) (ret := (some .int)) (by decide) rfl ?_
  intro p e s m args below meth c s₁ B hml hv
  obtain ⟨rfl, hsz, hP, hK, hT⟩ := hv
  have hx := B.exec
  have hb := B.bytes
  have hr := B.returns
  have hts : ∀ w ∈ wA, w.before _ s = true := fun w h => atoms_spec (ws := .code yX11_byteOf cX11_byteOf 7 (some .int) :: wA) B.pre w (List.mem_cons_of_mem _ h)
  have hown : s.vm.findClass RX11 = some m.cls := findClass_of_methodNamed B.named
  have hlocks := B.notSynchronized
  subst hsz
  have hD : va_D (va_A [] s.heap.size) [] := zD0
  generalize hAe : va_A [] s.heap.size = A at hD ⊢
  have hA : ∀ q : Nat, s.heap.size ≤ q → A q := fun q h => by rw [← hAe]; exact Or.inr h
  have hl := lv_entry ([.int p0, .int p1, .int p2, .int p3, .int p4, .int 8]) (n := 7) (Nat.le_of_ble_eq_true rfl)
  rw [lg_entry_eq]
  generalize (lg_sl ([.int p0, .int p1, .int p2, .int p3, .int p4, .int 8]) ++ List.replicate (7 - (lg_sl ([.int p0, .int p1, .int p2, .int p3, .int p4, .int 8])).length) Slot.unset).toArray = ls at hl ⊢
  have hl : lv_has ls 7 [(0, .int p0), (1, .int p1), (2, .int p2), (3, .int p3), (4, .int p4), (5, .int 8)] := hl
  refine zstart (fun H hH => ?_)
  rw [← hH] at hP
  have hS : va_S A s.heap H [] := by rw [hH]; exact va_S.rf
  refine lv_iload hx hb dX11_byteOf_0 (lv_at hl 5 rfl) ?_
  refine lv_iconst (v := 4) hx hb dX11_byteOf_2 (by decide) ?_
  refine lv_icmp_ge (tgt := 10) hx hb dX11_byteOf_3 (by decide) (fun _ => ?_) (fun c => absurd (by decide) c)
  refine lv_iload hx hb dX11_byteOf_10 (lv_at hl 5 rfl) ?_
  refine lv_bipush (v := 8) hx hb dX11_byteOf_12 (by decide) ?_
  refine lv_icmp_ge (tgt := 21) hx hb dX11_byteOf_14 (by decide) (fun _ => ?_) (fun c => absurd (by decide) c)
  refine lv_iload hx hb dX11_byteOf_21 (lv_at hl 5 rfl) ?_
  refine lv_bipush (v := 12) hx hb dX11_byteOf_23 (by decide) ?_
  refine lv_icmp_ge (tgt := 32) hx hb dX11_byteOf_25 (by decide) (fun c => absurd c (by decide)) (fun _ => ?_)
  refine lv_iload_n hx hb dX11_byteOf_28 rfl (lv_at hl 2 rfl) ?_
  refine lv_goto (tgt := 45) hx hb dX11_byteOf_29 (by decide) ?_
  refine lv_istore (lv' := [(6, .int p2), (0, .int p0), (1, .int p1), (2, .int p2), (3, .int p3), (4, .int p4), (5, .int 8)]) hx hb dX11_byteOf_45 hl (by decide) rfl (fun ls hl => ?_)
  refine lv_iload hx hb dX11_byteOf_47 (lv_at hl 0 rfl) ?_
  refine lv_bipush (v := 24) hx hb dX11_byteOf_49 (by decide) ?_
  refine lv_bipush (v := 8) hx hb dX11_byteOf_51 (by decide) ?_
  refine lv_iload hx hb dX11_byteOf_53 (lv_at hl 6 rfl) ?_
  refine lv_iconst (v := 4) hx hb dX11_byteOf_55 (by decide) ?_
  refine lv_irem hx hb dX11_byteOf_56 (by decide) ?_
  refine lv_topi (fun v_1 ev_1 => ?_)
  obtain rfl : v_1 = 0 := ev_1.trans (by decide)
  refine lv_imul hx hb dX11_byteOf_57 ?_
  refine lv_topi (fun v_2 ev_2 => ?_)
  obtain rfl : v_2 = 0 := ev_2.trans (by decide)
  refine lv_isub hx hb dX11_byteOf_58 ?_
  refine lv_topi (fun v_3 ev_3 => ?_)
  obtain rfl : v_3 = 24 := ev_3.trans (by decide)
  refine lv_ishr hx hb dX11_byteOf_59 ?_
  refine lv_sipush (v := 255) hx hb dX11_byteOf_60 (by decide) ?_
  refine lv_iand hx hb dX11_byteOf_63 ?_
  exact W.iret (v := ((p2 >>> (24 &&& 31)) &&& 255)) hx hb hr (fun t ht hW => ⟨⟨(p2 >>> (24 &&& 31)) &&& 255, (), rfl, rfl, trivial⟩, hS.F ht⟩) hS.2.2 dX11_byteOf_64
set_option maxHeartbeats 4000000 in
set_option maxRecDepth 100000 in
theorem c_X11_byteOf_9 (l : Launch) (dC : Nat → ClassId) (dI : Nat → Nat → Nat) (cI cJ : ClassId) (sz : Nat) (p0 : Int32) (p1 : Int32) (p2 : Int32) (p3 : Int32) (p4 : Int32) : Met l yX11_byteOf (.code yX11_byteOf cX11_byteOf 7 (some .int) :: wA) ({ frames := 0, cells := 0, slots := 0, locals := 0 }) (zP (dC, dI) [(cI, .int), (cJ, .long)] [.int p0, .int p1, .int p2, .int p3, .int p4, .int 9] sz []) (va_Qi (fun (r : Int32) (_ : Unit) => r = (p2 >>> (16 &&& 31)) &&& 255) (fun (_ : Unit) (_ : State) => True) (va_A [] sz)) 0 0 (va_A [] sz) := by
  refine Met.ofW (cc := cX11_byteOf) (maxL := 7) (ret := (some .int)) (by decide) rfl ?_
  intro p e s m args below meth c s₁ B hml hv
  obtain ⟨rfl, hsz, hP, hK, hT⟩ := hv
  have hx := B.exec
  have hb := B.bytes
  have hr := B.returns
  have hts : ∀ w ∈ wA, w.before _ s = true := fun w h => atoms_spec (ws := .code yX11_byteOf cX11_byteOf 7 (some .int) :: wA) B.pre w (List.mem_cons_of_mem _ h)
  have hown : s.vm.findClass RX11 = some m.cls := findClass_of_methodNamed B.named
  have hlocks := B.notSynchronized
  subst hsz
  have hD : va_D (va_A [] s.heap.size) [] := zD0
  generalize hAe : va_A [] s.heap.size = A at hD ⊢
  have hA : ∀ q : Nat, s.heap.size ≤ q → A q := fun q h => by rw [← hAe]; exact Or.inr h
  have hl := lv_entry ([.int p0, .int p1, .int p2, .int p3, .int p4, .int 9]) (n := 7) (Nat.le_of_ble_eq_true rfl)
  rw [lg_entry_eq]
  generalize (lg_sl ([.int p0, .int p1, .int p2, .int p3, .int p4, .int 9]) ++ List.replicate (7 - (lg_sl ([.int p0, .int p1, .int p2, .int p3, .int p4, .int 9])).length) Slot.unset).toArray = ls at hl ⊢
  have hl : lv_has ls 7 [(0, .int p0), (1, .int p1), (2, .int p2), (3, .int p3), (4, .int p4), (5, .int 9)] := hl
  refine zstart (fun H hH => ?_)
  rw [← hH] at hP
  have hS : va_S A s.heap H [] := by rw [hH]; exact va_S.rf
  refine lv_iload hx hb dX11_byteOf_0 (lv_at hl 5 rfl) ?_
  refine lv_iconst (v := 4) hx hb dX11_byteOf_2 (by decide) ?_
  refine lv_icmp_ge (tgt := 10) hx hb dX11_byteOf_3 (by decide) (fun _ => ?_) (fun c => absurd (by decide) c)
  refine lv_iload hx hb dX11_byteOf_10 (lv_at hl 5 rfl) ?_
  refine lv_bipush (v := 8) hx hb dX11_byteOf_12 (by decide) ?_
  refine lv_icmp_ge (tgt := 21) hx hb dX11_byteOf_14 (by decide) (fun _ => ?_) (fun c => absurd (by decide) c)
  refine lv_iload hx hb dX11_byteOf_21 (lv_at hl 5 rfl) ?_
  refine lv_bipush (v := 12) hx hb dX11_byteOf_23 (by decide) ?_
  refine lv_icmp_ge (tgt := 32) hx hb dX11_byteOf_25 (by decide) (fun c => absurd c (by decide)) (fun _ => ?_)
  refine lv_iload_n hx hb dX11_byteOf_28 rfl (lv_at hl 2 rfl) ?_
  refine lv_goto (tgt := 45) hx hb dX11_byteOf_29 (by decide) ?_
  refine lv_istore (lv' := [(6, .int p2), (0, .int p0), (1, .int p1), (2, .int p2), (3, .int p3), (4, .int p4), (5, .int 9)]) hx hb dX11_byteOf_45 hl (by decide) rfl (fun ls hl => ?_)
  refine lv_iload hx hb dX11_byteOf_47 (lv_at hl 0 rfl) ?_
  refine lv_bipush (v := 24) hx hb dX11_byteOf_49 (by decide) ?_
  refine lv_bipush (v := 8) hx hb dX11_byteOf_51 (by decide) ?_
  refine lv_iload hx hb dX11_byteOf_53 (lv_at hl 6 rfl) ?_
  refine lv_iconst (v := 4) hx hb dX11_byteOf_55 (by decide) ?_
  refine lv_irem hx hb dX11_byteOf_56 (by decide) ?_
  refine lv_topi (fun v_1 ev_1 => ?_)
  obtain rfl : v_1 = 1 := ev_1.trans (by decide)
  refine lv_imul hx hb dX11_byteOf_57 ?_
  refine lv_topi (fun v_2 ev_2 => ?_)
  obtain rfl : v_2 = 8 := ev_2.trans (by decide)
  refine lv_isub hx hb dX11_byteOf_58 ?_
  refine lv_topi (fun v_3 ev_3 => ?_)
  obtain rfl : v_3 = 16 := ev_3.trans (by decide)
  refine lv_ishr hx hb dX11_byteOf_59 ?_
  refine lv_sipush (v := 255) hx hb dX11_byteOf_60 (by decide) ?_
  refine lv_iand hx hb dX11_byteOf_63 ?_
  exact W.iret (v := ((p2 >>> (16 &&& 31)) &&& 255)) hx hb hr (fun t ht hW => ⟨⟨(p2 >>> (16 &&& 31)) &&& 255, (), rfl, rfl, trivial⟩, hS.F ht⟩) hS.2.2 dX11_byteOf_64
set_option maxHeartbeats 4000000 in
set_option maxRecDepth 100000 in
theorem c_X11_byteOf_10 (l : Launch) (dC : Nat → ClassId) (dI : Nat → Nat → Nat) (cI cJ : ClassId) (sz : Nat) (p0 : Int32) (p1 : Int32) (p2 : Int32) (p3 : Int32) (p4 : Int32) : Met l yX11_byteOf (.code yX11_byteOf cX11_byteOf 7 (some .int) :: wA) ({ frames := 0, cells := 0, slots := 0, locals := 0 }) (zP (dC, dI) [(cI, .int), (cJ, .long)] [.int p0, .int p1, .int p2, .int p3, .int p4, .int 10] sz []) (va_Qi (fun (r : Int32) (_ : Unit) => r = (p2 >>> (8 &&& 31)) &&& 255) (fun (_ : Unit) (_ : State) => True) (va_A [] sz)) 0 0 (va_A [] sz) := by
  refine Met.ofW (cc := cX11_byteOf) (maxL := 7) (ret := (some .int)) (by decide) rfl ?_
  intro p e s m args below meth c s₁ B hml hv
  obtain ⟨rfl, hsz, hP, hK, hT⟩ := hv
  have hx := B.exec
  have hb := B.bytes
  have hr := B.returns
  have hts : ∀ w ∈ wA, w.before _ s = true := fun w h => atoms_spec (ws := .code yX11_byteOf cX11_byteOf 7 (some .int) :: wA) B.pre w (List.mem_cons_of_mem _ h)
  have hown : s.vm.findClass RX11 = some m.cls := findClass_of_methodNamed B.named
  have hlocks := B.notSynchronized
  subst hsz
  have hD : va_D (va_A [] s.heap.size) [] := zD0
  generalize hAe : va_A [] s.heap.size = A at hD ⊢
  have hA : ∀ q : Nat, s.heap.size ≤ q → A q := fun q h => by rw [← hAe]; exact Or.inr h
  have hl := lv_entry ([.int p0, .int p1, .int p2, .int p3, .int p4, .int 10]) (n := 7) (Nat.le_of_ble_eq_true rfl)
  rw [lg_entry_eq]
  generalize (lg_sl ([.int p0, .int p1, .int p2, .int p3, .int p4, .int 10]) ++ List.replicate (7 - (lg_sl ([.int p0, .int p1, .int p2, .int p3, .int p4, .int 10])).length) Slot.unset).toArray = ls at hl ⊢
  have hl : lv_has ls 7 [(0, .int p0), (1, .int p1), (2, .int p2), (3, .int p3), (4, .int p4), (5, .int 10)] := hl
  refine zstart (fun H hH => ?_)
  rw [← hH] at hP
  have hS : va_S A s.heap H [] := by rw [hH]; exact va_S.rf
  refine lv_iload hx hb dX11_byteOf_0 (lv_at hl 5 rfl) ?_
  refine lv_iconst (v := 4) hx hb dX11_byteOf_2 (by decide) ?_
  refine lv_icmp_ge (tgt := 10) hx hb dX11_byteOf_3 (by decide) (fun _ => ?_) (fun c => absurd (by decide) c)
  refine lv_iload hx hb dX11_byteOf_10 (lv_at hl 5 rfl) ?_
  refine lv_bipush (v := 8) hx hb dX11_byteOf_12 (by decide) ?_
  refine lv_icmp_ge (tgt := 21) hx hb dX11_byteOf_14 (by decide) (fun _ => ?_) (fun c => absurd (by decide) c)
  refine lv_iload hx hb dX11_byteOf_21 (lv_at hl 5 rfl) ?_
  refine lv_bipush (v := 12) hx hb dX11_byteOf_23 (by decide) ?_
  refine lv_icmp_ge (tgt := 32) hx hb dX11_byteOf_25 (by decide) (fun c => absurd c (by decide)) (fun _ => ?_)
  refine lv_iload_n hx hb dX11_byteOf_28 rfl (lv_at hl 2 rfl) ?_
  refine lv_goto (tgt := 45) hx hb dX11_byteOf_29 (by decide) ?_
  refine lv_istore (lv' := [(6, .int p2), (0, .int p0), (1, .int p1), (2, .int p2), (3, .int p3), (4, .int p4), (5, .int 10)]) hx hb dX11_byteOf_45 hl (by decide) rfl (fun ls hl => ?_)
  refine lv_iload hx hb dX11_byteOf_47 (lv_at hl 0 rfl) ?_
  refine lv_bipush (v := 24) hx hb dX11_byteOf_49 (by decide) ?_
  refine lv_bipush (v := 8) hx hb dX11_byteOf_51 (by decide) ?_
  refine lv_iload hx hb dX11_byteOf_53 (lv_at hl 6 rfl) ?_
  refine lv_iconst (v := 4) hx hb dX11_byteOf_55 (by decide) ?_
  refine lv_irem hx hb dX11_byteOf_56 (by decide) ?_
  refine lv_topi (fun v_1 ev_1 => ?_)
  obtain rfl : v_1 = 2 := ev_1.trans (by decide)
  refine lv_imul hx hb dX11_byteOf_57 ?_
  refine lv_topi (fun v_2 ev_2 => ?_)
  obtain rfl : v_2 = 16 := ev_2.trans (by decide)
  refine lv_isub hx hb dX11_byteOf_58 ?_
  refine lv_topi (fun v_3 ev_3 => ?_)
  obtain rfl : v_3 = 8 := ev_3.trans (by decide)
  refine lv_ishr hx hb dX11_byteOf_59 ?_
  refine lv_sipush (v := 255) hx hb dX11_byteOf_60 (by decide) ?_
  refine lv_iand hx hb dX11_byteOf_63 ?_
  exact W.iret (v := ((p2 >>> (8 &&& 31)) &&& 255)) hx hb hr (fun t ht hW => ⟨⟨(p2 >>> (8 &&& 31)) &&& 255, (), rfl, rfl, trivial⟩, hS.F ht⟩) hS.2.2 dX11_byteOf_64
set_option maxHeartbeats 4000000 in
set_option maxRecDepth 100000 in
theorem c_X11_byteOf_11 (l : Launch) (dC : Nat → ClassId) (dI : Nat → Nat → Nat) (cI cJ : ClassId) (sz : Nat) (p0 : Int32) (p1 : Int32) (p2 : Int32) (p3 : Int32) (p4 : Int32) : Met l yX11_byteOf (.code yX11_byteOf cX11_byteOf 7 (some .int) :: wA) ({ frames := 0, cells := 0, slots := 0, locals := 0 }) (zP (dC, dI) [(cI, .int), (cJ, .long)] [.int p0, .int p1, .int p2, .int p3, .int p4, .int 11] sz []) (va_Qi (fun (r : Int32) (_ : Unit) => r = (p2 >>> (0 &&& 31)) &&& 255) (fun (_ : Unit) (_ : State) => True) (va_A [] sz)) 0 0 (va_A [] sz) := by
  refine Met.ofW (cc := cX11_byteOf) (maxL := 7) (ret := (some .int)) (by decide) rfl ?_
  intro p e s m args below meth c s₁ B hml hv
  obtain ⟨rfl, hsz, hP, hK, hT⟩ := hv
  have hx := B.exec
  have hb := B.bytes
  have hr := B.returns
  have hts : ∀ w ∈ wA, w.before _ s = true := fun w h => atoms_spec (ws := .code yX11_byteOf cX11_byteOf 7 (some .int) :: wA) B.pre w (List.mem_cons_of_mem _ h)
  have hown : s.vm.findClass RX11 = some m.cls := findClass_of_methodNamed B.named
  have hlocks := B.notSynchronized
  subst hsz
  have hD : va_D (va_A [] s.heap.size) [] := zD0
  generalize hAe : va_A [] s.heap.size = A at hD ⊢
  have hA : ∀ q : Nat, s.heap.size ≤ q → A q := fun q h => by rw [← hAe]; exact Or.inr h
  have hl := lv_entry ([.int p0, .int p1, .int p2, .int p3, .int p4, .int 11]) (n := 7) (Nat.le_of_ble_eq_true rfl)
  rw [lg_entry_eq]
  generalize (lg_sl ([.int p0, .int p1, .int p2, .int p3, .int p4, .int 11]) ++ List.replicate (7 - (lg_sl ([.int p0, .int p1, .int p2, .int p3, .int p4, .int 11])).length) Slot.unset).toArray = ls at hl ⊢
  have hl : lv_has ls 7 [(0, .int p0), (1, .int p1), (2, .int p2), (3, .int p3), (4, .int p4), (5, .int 11)] := hl
  refine zstart (fun H hH => ?_)
  rw [← hH] at hP
  have hS : va_S A s.heap H [] := by rw [hH]; exact va_S.rf
  refine lv_iload hx hb dX11_byteOf_0 (lv_at hl 5 rfl) ?_
  refine lv_iconst (v := 4) hx hb dX11_byteOf_2 (by decide) ?_
  refine lv_icmp_ge (tgt := 10) hx hb dX11_byteOf_3 (by decide) (fun _ => ?_) (fun c => absurd (by decide) c)
  refine lv_iload hx hb dX11_byteOf_10 (lv_at hl 5 rfl) ?_
  refine lv_bipush (v := 8) hx hb dX11_byteOf_12 (by decide) ?_
  refine lv_icmp_ge (tgt := 21) hx hb dX11_byteOf_14 (by decide) (fun _ => ?_) (fun c => absurd (by decide) c)
  refine lv_iload hx hb dX11_byteOf_21 (lv_at hl 5 rfl) ?_
  refine lv_bipush (v := 12) hx hb dX11_byteOf_23 (by decide) ?_
  refine lv_icmp_ge (tgt := 32) hx hb dX11_byteOf_25 (by decide) (fun c => absurd c (by decide)) (fun _ => ?_)
  refine lv_iload_n hx hb dX11_byteOf_28 rfl (lv_at hl 2 rfl) ?_
  refine lv_goto (tgt := 45) hx hb dX11_byteOf_29 (by decide) ?_
  refine lv_istore (lv' := [(6, .int p2), (0, .int p0), (1, .int p1), (2, .int p2), (3, .int p3), (4, .int p4), (5, .int 11)]) hx hb dX11_byteOf_45 hl (by decide) rfl (fun ls hl => ?_)
  refine lv_iload hx hb dX11_byteOf_47 (lv_at hl 0 rfl) ?_
  refine lv_bipush (v := 24) hx hb dX11_byteOf_49 (by decide) ?_
  refine lv_bipush (v := 8) hx hb dX11_byteOf_51 (by decide) ?_
  refine lv_iload hx hb dX11_byteOf_53 (lv_at hl 6 rfl) ?_
  refine lv_iconst (v := 4) hx hb dX11_byteOf_55 (by decide) ?_
  refine lv_irem hx hb dX11_byteOf_56 (by decide) ?_
  refine lv_topi (fun v_1 ev_1 => ?_)
  obtain rfl : v_1 = 3 := ev_1.trans (by decide)
  refine lv_imul hx hb dX11_byteOf_57 ?_
  refine lv_topi (fun v_2 ev_2 => ?_)
  obtain rfl : v_2 = 24 := ev_2.trans (by decide)
  refine lv_isub hx hb dX11_byteOf_58 ?_
  refine lv_topi (fun v_3 ev_3 => ?_)
  obtain rfl : v_3 = 0 := ev_3.trans (by decide)
  refine lv_ishr hx hb dX11_byteOf_59 ?_
  refine lv_sipush (v := 255) hx hb dX11_byteOf_60 (by decide) ?_
  refine lv_iand hx hb dX11_byteOf_63 ?_
  exact W.iret (v := ((p2 >>> (0 &&& 31)) &&& 255)) hx hb hr (fun t ht hW => ⟨⟨(p2 >>> (0 &&& 31)) &&& 255, (), rfl, rfl, trivial⟩, hS.F ht⟩) hS.2.2 dX11_byteOf_64
set_option maxHeartbeats 4000000 in
set_option maxRecDepth 100000 in
theorem c_X11_byteOf_12 (l : Launch) (dC : Nat → ClassId) (dI : Nat → Nat → Nat) (cI cJ : ClassId) (sz : Nat) (p0 : Int32) (p1 : Int32) (p2 : Int32) (p3 : Int32) (p4 : Int32) : Met l yX11_byteOf (.code yX11_byteOf cX11_byteOf 7 (some .int) :: wA) ({ frames := 0, cells := 0, slots := 0, locals := 0 }) (zP (dC, dI) [(cI, .int), (cJ, .long)] [.int p0, .int p1, .int p2, .int p3, .int p4, .int 12] sz []) (va_Qi (fun (r : Int32) (_ : Unit) => r = (p3 >>> (24 &&& 31)) &&& 255) (fun (_ : Unit) (_ : State) => True) (va_A [] sz)) 0 0 (va_A [] sz) := by
  refine Met.ofW (cc := cX11_byteOf) (maxL := 7) (ret := (some .int)) (by decide) rfl ?_
  intro p e s m args below meth c s₁ B hml hv
  obtain ⟨rfl, hsz, hP, hK, hT⟩ := hv
  have hx := B.exec
  have hb := B.bytes
  have hr := B.returns
  have hts : ∀ w ∈ wA, w.before _ s = true := fun w h => atoms_spec (ws := .code yX11_byteOf cX11_byteOf 7 (some .int) :: wA) B.pre w (List.mem_cons_of_mem _ h)
  have hown : s.vm.findClass RX11 = some m.cls := findClass_of_methodNamed B.named
  have hlocks := B.notSynchronized
  subst hsz
  have hD : va_D (va_A [] s.heap.size) [] := zD0
  generalize hAe : va_A [] s.heap.size = A at hD ⊢
  have hA : ∀ q : Nat, s.heap.size ≤ q → A q := fun q h => by rw [← hAe]; exact Or.inr h
  have hl := lv_entry ([.int p0, .int p1, .int p2, .int p3, .int p4, .int 12]) (n := 7) (Nat.le_of_ble_eq_true rfl)
  rw [lg_entry_eq]
  generalize (lg_sl ([.int p0, .int p1, .int p2, .int p3, .int p4, .int 12]) ++ List.replicate (7 - (lg_sl ([.int p0, .int p1, .int p2, .int p3, .int p4, .int 12])).length) Slot.unset).toArray = ls at hl ⊢
  have hl : lv_has ls 7 [(0, .int p0), (1, .int p1), (2, .int p2), (3, .int p3), (4, .int p4), (5, .int 12)] := hl
  refine zstart (fun H hH => ?_)
  rw [← hH] at hP
  have hS : va_S A s.heap H [] := by rw [hH]; exact va_S.rf
  refine lv_iload hx hb dX11_byteOf_0 (lv_at hl 5 rfl) ?_
  refine lv_iconst (v := 4) hx hb dX11_byteOf_2 (by decide) ?_
  refine lv_icmp_ge (tgt := 10) hx hb dX11_byteOf_3 (by decide) (fun _ => ?_) (fun c => absurd (by decide) c)
  refine lv_iload hx hb dX11_byteOf_10 (lv_at hl 5 rfl) ?_
  refine lv_bipush (v := 8) hx hb dX11_byteOf_12 (by decide) ?_
  refine lv_icmp_ge (tgt := 21) hx hb dX11_byteOf_14 (by decide) (fun _ => ?_) (fun c => absurd (by decide) c)
  refine lv_iload hx hb dX11_byteOf_21 (lv_at hl 5 rfl) ?_
  refine lv_bipush (v := 12) hx hb dX11_byteOf_23 (by decide) ?_
  refine lv_icmp_ge (tgt := 32) hx hb dX11_byteOf_25 (by decide) (fun _ => ?_) (fun c => absurd (by decide) c)
  refine lv_iload hx hb dX11_byteOf_32 (lv_at hl 5 rfl) ?_
  refine lv_bipush (v := 16) hx hb dX11_byteOf_34 (by decide) ?_
  refine lv_icmp_ge (tgt := 43) hx hb dX11_byteOf_36 (by decide) (fun c => absurd c (by decide)) (fun _ => ?_)
  refine lv_iload_n hx hb dX11_byteOf_39 rfl (lv_at hl 3 rfl) ?_
  refine lv_goto (tgt := 45) hx hb dX11_byteOf_40 (by decide) ?_
  refine lv_istore (lv' := [(6, .int p3), (0, .int p0), (1, .int p1), (2, .int p2), (3, .int p3), (4, .int p4), (5, .int 12)]) hx hb dX11_byteOf_45 hl (by decide) rfl (fun ls hl => ?_)
  refine lv_iload hx hb dX11_byteOf_47 (lv_at hl 0 rfl) ?_
  refine lv_bipush (v := 24) hx hb dX11_byteOf_49 (by decide) ?_
  refine lv_bipush (v := 8) hx hb dX11_byteOf_51 (by decide) ?_
  refine lv_iload hx hb dX11_byteOf_53 (lv_at hl 6 rfl) ?_
  refine lv_iconst (v := 4) hx hb dX11_byteOf_55 (by decide) ?_
  refine lv_irem hx hb dX11_byteOf_56 (by decide) ?_
  refine lv_topi (fun v_1 ev_1 => ?_)
  obtain rfl : v_1 = 0 := ev_1.trans (by decide)
  refine lv_imul hx hb dX11_byteOf_57 ?_
  refine lv_topi (fun v_2 ev_2 => ?_)
  obtain rfl : v_2 = 0 := ev_2.trans (by decide)
  refine lv_isub hx hb dX11_byteOf_58 ?_
  refine lv_topi (fun v_3 ev_3 => ?_)
  obtain rfl : v_3 = 24 := ev_3.trans (by decide)
  refine lv_ishr hx hb dX11_byteOf_59 ?_
  refine lv_sipush (v := 255) hx hb dX11_byteOf_60 (by decide) ?_
  refine lv_iand hx hb dX11_byteOf_63 ?_
  exact W.iret (v := ((p3 >>> (24 &&& 31)) &&& 255)) hx hb hr (fun t ht hW => ⟨⟨(p3 >>> (24 &&& 31)) &&& 255, (), rfl, rfl, trivial⟩, hS.F ht⟩) hS.2.2 dX11_byteOf_64
set_option maxHeartbeats 4000000 in
set_option maxRecDepth 100000 in
theorem c_X11_byteOf_13 (l : Launch) (dC : Nat → ClassId) (dI : Nat → Nat → Nat) (cI cJ : ClassId) (sz : Nat) (p0 : Int32) (p1 : Int32) (p2 : Int32) (p3 : Int32) (p4 : Int32) : Met l yX11_byteOf (.code yX11_byteOf cX11_byteOf 7 (some .int) :: wA) ({ frames := 0, cells := 0, slots := 0, locals := 0 }) (zP (dC, dI) [(cI, .int), (cJ, .long)] [.int p0, .int p1, .int p2, .int p3, .int p4, .int 13] sz []) (va_Qi (fun (r : Int32) (_ : Unit) => r = (p3 >>> (16 &&& 31)) &&& 255) (fun (_ : Unit) (_ : State) => True) (va_A [] sz)) 0 0 (va_A [] sz) := by
  refine Met.ofW (cc := cX11_byteOf) (maxL := 7) (ret := (some .int)) (by decide) rfl ?_
  intro p e s m args below meth c s₁ B hml hv
  obtain ⟨rfl, hsz, hP, hK, hT⟩ := hv
  have hx := B.exec
  have hb := B.bytes
  have hr := B.returns
  have hts : ∀ w ∈ wA, w.before _ s = true := fun w h => atoms_spec (ws := .code yX11_byteOf cX11_byteOf 7 (some .int) :: wA) B.pre w (List.mem_cons_of_mem _ h)
  have hown : s.vm.findClass RX11 = some m.cls := findClass_of_methodNamed B.named
  have hlocks := B.notSynchronized
  subst hsz
  have hD : va_D (va_A [] s.heap.size) [] := zD0
  generalize hAe : va_A [] s.heap.size = A at hD ⊢
  have hA : ∀ q : Nat, s.heap.size ≤ q → A q := fun q h => by rw [← hAe]; exact Or.inr h
  have hl := lv_entry ([.int p0, .int p1, .int p2, .int p3, .int p4, .int 13]) (n := 7) (Nat.le_of_ble_eq_true rfl)
  rw [lg_entry_eq]
  generalize (lg_sl ([.int p0, .int p1, .int p2, .int p3, .int p4, .int 13]) ++ List.replicate (7 - (lg_sl ([.int p0, .int p1, .int p2, .int p3, .int p4, .int 13])).length) Slot.unset).toArray = ls at hl ⊢
  have hl : lv_has ls 7 [(0, .int p0), (1, .int p1), (2, .int p2), (3, .int p3), (4, .int p4), (5, .int 13)] := hl
  refine zstart (fun H hH => ?_)
  rw [← hH] at hP
  have hS : va_S A s.heap H [] := by rw [hH]; exact va_S.rf
  refine lv_iload hx hb dX11_byteOf_0 (lv_at hl 5 rfl) ?_
  refine lv_iconst (v := 4) hx hb dX11_byteOf_2 (by decide) ?_
  refine lv_icmp_ge (tgt := 10) hx hb dX11_byteOf_3 (by decide) (fun _ => ?_) (fun c => absurd (by decide) c)
  refine lv_iload hx hb dX11_byteOf_10 (lv_at hl 5 rfl) ?_
  refine lv_bipush (v := 8) hx hb dX11_byteOf_12 (by decide) ?_
  refine lv_icmp_ge (tgt := 21) hx hb dX11_byteOf_14 (by decide) (fun _ => ?_) (fun c => absurd (by decide) c)
  refine lv_iload hx hb dX11_byteOf_21 (lv_at hl 5 rfl) ?_
  refine lv_bipush (v := 12) hx hb dX11_byteOf_23 (by decide) ?_
  refine lv_icmp_ge (tgt := 32) hx hb dX11_byteOf_25 (by decide) (fun _ => ?_) (fun c => absurd (by decide) c)
  refine lv_iload hx hb dX11_byteOf_32 (lv_at hl 5 rfl) ?_
  refine lv_bipush (v := 16) hx hb dX11_byteOf_34 (by decide) ?_
  refine lv_icmp_ge (tgt := 43) hx hb dX11_byteOf_36 (by decide) (fun c => absurd c (by decide)) (fun _ => ?_)
  refine lv_iload_n hx hb dX11_byteOf_39 rfl (lv_at hl 3 rfl) ?_
  refine lv_goto (tgt := 45) hx hb dX11_byteOf_40 (by decide) ?_
  refine lv_istore (lv' := [(6, .int p3), (0, .int p0), (1, .int p1), (2, .int p2), (3, .int p3), (4, .int p4), (5, .int 13)]) hx hb dX11_byteOf_45 hl (by decide) rfl (fun ls hl => ?_)
  refine lv_iload hx hb dX11_byteOf_47 (lv_at hl 0 rfl) ?_
  refine lv_bipush (v := 24) hx hb dX11_byteOf_49 (by decide) ?_
  refine lv_bipush (v := 8) hx hb dX11_byteOf_51 (by decide) ?_
  refine lv_iload hx hb dX11_byteOf_53 (lv_at hl 6 rfl) ?_
  refine lv_iconst (v := 4) hx hb dX11_byteOf_55 (by decide) ?_
  refine lv_irem hx hb dX11_byteOf_56 (by decide) ?_
  refine lv_topi (fun v_1 ev_1 => ?_)
  obtain rfl : v_1 = 1 := ev_1.trans (by decide)
  refine lv_imul hx hb dX11_byteOf_57 ?_
  refine lv_topi (fun v_2 ev_2 => ?_)
  obtain rfl : v_2 = 8 := ev_2.trans (by decide)
  refine lv_isub hx hb dX11_byteOf_58 ?_
  refine lv_topi (fun v_3 ev_3 => ?_)
  obtain rfl : v_3 = 16 := ev_3.trans (by decide)
  refine lv_ishr hx hb dX11_byteOf_59 ?_
  refine lv_sipush (v := 255) hx hb dX11_byteOf_60 (by decide) ?_
  refine lv_iand hx hb dX11_byteOf_63 ?_
  exact W.iret (v := ((p3 >>> (16 &&& 31)) &&& 255)) hx hb hr (fun t ht hW => ⟨⟨(p3 >>> (16 &&& 31)) &&& 255, (), rfl, rfl, trivial⟩, hS.F ht⟩) hS.2.2 dX11_byteOf_64
set_option maxHeartbeats 4000000 in
set_option maxRecDepth 100000 in
theorem c_X11_byteOf_14 (l : Launch) (dC : Nat → ClassId) (dI : Nat → Nat → Nat) (cI cJ : ClassId) (sz : Nat) (p0 : Int32) (p1 : Int32) (p2 : Int32) (p3 : Int32) (p4 : Int32) : Met l yX11_byteOf (.code yX11_byteOf cX11_byteOf 7 (some .int) :: wA) ({ frames := 0, cells := 0, slots := 0, locals := 0 }) (zP (dC, dI) [(cI, .int), (cJ, .long)] [.int p0, .int p1, .int p2, .int p3, .int p4, .int 14] sz []) (va_Qi (fun (r : Int32) (_ : Unit) => r = (p3 >>> (8 &&& 31)) &&& 255) (fun (_ : Unit) (_ : State) => True) (va_A [] sz)) 0 0 (va_A [] sz) := by
  refine Met.ofW (cc := cX11_byteOf) (maxL := 7) (ret := (some .int)) (by decide) rfl ?_
  intro p e s m args below meth c s₁ B hml hv
  obtain ⟨rfl, hsz, hP, hK, hT⟩ := hv
  have hx := B.exec
  have hb := B.bytes
  have hr := B.returns
  have hts : ∀ w ∈ wA, w.before _ s = true := fun w h => atoms_spec (ws := .code yX11_byteOf cX11_byteOf 7 (some .int) :: wA) B.pre w (List.mem_cons_of_mem _ h)
  have hown : s.vm.findClass RX11 = some m.cls := findClass_of_methodNamed B.named
  have hlocks := B.notSynchronized
  subst hsz
  have hD : va_D (va_A [] s.heap.size) [] := zD0
  generalize hAe : va_A [] s.heap.size = A at hD ⊢
  have hA : ∀ q : Nat, s.heap.size ≤ q → A q := fun q h => by rw [← hAe]; exact Or.inr h
  have hl := lv_entry ([.int p0, .int p1, .int p2, .int p3, .int p4, .int 14]) (n := 7) (Nat.le_of_ble_eq_true rfl)
  rw [lg_entry_eq]
  generalize (lg_sl ([.int p0, .int p1, .int p2, .int p3, .int p4, .int 14]) ++ List.replicate (7 - (lg_sl ([.int p0, .int p1, .int p2, .int p3, .int p4, .int 14])).length) Slot.unset).toArray = ls at hl ⊢
  have hl : lv_has ls 7 [(0, .int p0), (1, .int p1), (2, .int p2), (3, .int p3), (4, .int p4), (5, .int 14)] := hl
  refine zstart (fun H hH => ?_)
  rw [← hH] at hP
  have hS : va_S A s.heap H [] := by rw [hH]; exact va_S.rf
  refine lv_iload hx hb dX11_byteOf_0 (lv_at hl 5 rfl) ?_
  refine lv_iconst (v := 4) hx hb dX11_byteOf_2 (by decide) ?_
  refine lv_icmp_ge (tgt := 10) hx hb dX11_byteOf_3 (by decide) (fun _ => ?_) (fun c => absurd (by decide) c)
  refine lv_iload hx hb dX11_byteOf_10 (lv_at hl 5 rfl) ?_
  refine lv_bipush (v := 8) hx hb dX11_byteOf_12 (by decide) ?_
  refine lv_icmp_ge (tgt := 21) hx hb dX11_byteOf_14 (by decide) (fun _ => ?_) (fun c => absurd (by decide) c)
  refine lv_iload hx hb dX11_byteOf_21 (lv_at hl 5 rfl) ?_
  refine lv_bipush (v := 12) hx hb dX11_byteOf_23 (by decide) ?_
  refine lv_icmp_ge (tgt := 32) hx hb dX11_byteOf_25 (by decide) (fun _ => ?_) (fun c => absurd (by decide) c)
  refine lv_iload hx hb dX11_byteOf_32 (lv_at hl 5 rfl) ?_
  refine lv_bipush (v := 16) hx hb dX11_byteOf_34 (by decide) ?_
  refine lv_icmp_ge (tgt := 43) hx hb dX11_byteOf_36 (by decide) (fun c => absurd c (by decide)) (fun _ => ?_)
  refine lv_iload_n hx hb dX11_byteOf_39 rfl (lv_at hl 3 rfl) ?_
  refine lv_goto (tgt := 45) hx hb dX11_byteOf_40 (by decide) ?_
  refine lv_istore (lv' := [(6, .int p3), (0, .int p0), (1, .int p1), (2, .int p2), (3, .int p3), (4, .int p4), (5, .int 14)]) hx hb dX11_byteOf_45 hl (by decide) rfl (fun ls hl => ?_)
  refine lv_iload hx hb dX11_byteOf_47 (lv_at hl 0 rfl) ?_
  refine lv_bipush (v := 24) hx hb dX11_byteOf_49 (by decide) ?_
  refine lv_bipush (v := 8) hx hb dX11_byteOf_51 (by decide) ?_
  refine lv_iload hx hb dX11_byteOf_53 (lv_at hl 6 rfl) ?_
  refine lv_iconst (v := 4) hx hb dX11_byteOf_55 (by decide) ?_
  refine lv_irem hx hb dX11_byteOf_56 (by decide) ?_
  refine lv_topi (fun v_1 ev_1 => ?_)
  obtain rfl : v_1 = 2 := ev_1.trans (by decide)
  refine lv_imul hx hb dX11_byteOf_57 ?_
  refine lv_topi (fun v_2 ev_2 => ?_)
  obtain rfl : v_2 = 16 := ev_2.trans (by decide)
  refine lv_isub hx hb dX11_byteOf_58 ?_
  refine lv_topi (fun v_3 ev_3 => ?_)
  obtain rfl : v_3 = 8 := ev_3.trans (by decide)
  refine lv_ishr hx hb dX11_byteOf_59 ?_
  refine lv_sipush (v := 255) hx hb dX11_byteOf_60 (by decide) ?_
  refine lv_iand hx hb dX11_byteOf_63 ?_
  exact W.iret (v := ((p3 >>> (8 &&& 31)) &&& 255)) hx hb hr (fun t ht hW => ⟨⟨(p3 >>> (8 &&& 31)) &&& 255, (), rfl, rfl, trivial⟩, hS.F ht⟩) hS.2.2 dX11_byteOf_64
set_option maxHeartbeats 4000000 in
set_option maxRecDepth 100000 in
theorem c_X11_byteOf_15 (l : Launch) (dC : Nat → ClassId) (dI : Nat → Nat → Nat) (cI cJ : ClassId) (sz : Nat) (p0 : Int32) (p1 : Int32) (p2 : Int32) (p3 : Int32) (p4 : Int32) : Met l yX11_byteOf (.code yX11_byteOf cX11_byteOf 7 (some .int) :: wA) ({ frames := 0, cells := 0, slots := 0, locals := 0 }) (zP (dC, dI) [(cI, .int), (cJ, .long)] [.int p0, .int p1, .int p2, .int p3, .int p4, .int 15] sz []) (va_Qi (fun (r : Int32) (_ : Unit) => r = (p3 >>> (0 &&& 31)) &&& 255) (fun (_ : Unit) (_ : State) => True) (va_A [] sz)) 0 0 (va_A [] sz) := by
  refine Met.ofW (cc := cX11_byteOf) (maxL := 7) (ret := (some .int)) (by decide) rfl ?_
  intro p e s m args below meth c s₁ B hml hv
  obtain ⟨rfl, hsz, hP, hK, hT⟩ := hv
  have hx := B.exec
  have hb := B.bytes
  have hr := B.returns
  have hts : ∀ w ∈ wA, w.before _ s = true := fun w h => atoms_spec (ws := .code yX11_byteOf cX11_byteOf 7 (some .int) :: wA) B.pre w (List.mem_cons_of_mem _ h)
  have hown : s.vm.findClass RX11 = some m.cls := findClass_of_methodNamed B.named
  have hlocks := B.notSynchronized
  subst hsz
  have hD : va_D (va_A [] s.heap.size) [] := zD0
  generalize hAe : va_A [] s.heap.size = A at hD ⊢
  have hA : ∀ q : Nat, s.heap.size ≤ q → A q := fun q h => by rw [← hAe]; exact Or.inr h
  have hl := lv_entry ([.int p0, .int p1, .int p2, .int p3, .int p4, .int 15]) (n := 7) (Nat.le_of_ble_eq_true rfl)
  rw [lg_entry_eq]
  generalize (lg_sl ([.int p0, .int p1, .int p2, .int p3, .int p4, .int 15]) ++ List.replicate (7 - (lg_sl ([.int p0, .int p1, .int p2, .int p3, .int p4, .int 15])).length) Slot.unset).toArray = ls at hl ⊢
  have hl : lv_has ls 7 [(0, .int p0), (1, .int p1), (2, .int p2), (3, .int p3), (4, .int p4), (5, .int 15)] := hl
  refine zstart (fun H hH => ?_)
  rw [← hH] at hP
  have hS : va_S A s.heap H [] := by rw [hH]; exact va_S.rf
  refine lv_iload hx hb dX11_byteOf_0 (lv_at hl 5 rfl) ?_
  refine lv_iconst (v := 4) hx hb dX11_byteOf_2 (by decide) ?_
  refine lv_icmp_ge (tgt := 10) hx hb dX11_byteOf_3 (by decide) (fun _ => ?_) (fun c => absurd (by decide) c)
  refine lv_iload hx hb dX11_byteOf_10 (lv_at hl 5 rfl) ?_
  refine lv_bipush (v := 8) hx hb dX11_byteOf_12 (by decide) ?_
  refine lv_icmp_ge (tgt := 21) hx hb dX11_byteOf_14 (by decide) (fun _ => ?_) (fun c => absurd (by decide) c)
  refine lv_iload hx hb dX11_byteOf_21 (lv_at hl 5 rfl) ?_
  refine lv_bipush (v := 12) hx hb dX11_byteOf_23 (by decide) ?_
  refine lv_icmp_ge (tgt := 32) hx hb dX11_byteOf_25 (by decide) (fun _ => ?_) (fun c => absurd (by decide) c)
  refine lv_iload hx hb dX11_byteOf_32 (lv_at hl 5 rfl) ?_
  refine lv_bipush (v := 16) hx hb dX11_byteOf_34 (by decide) ?_
  refine lv_icmp_ge (tgt := 43) hx hb dX11_byteOf_36 (by decide) (fun c => absurd c (by decide)) (fun _ => ?_)
  refine lv_iload_n hx hb dX11_byteOf_39 rfl (lv_at hl 3 rfl) ?_
  refine lv_goto (tgt := 45) hx hb dX11_byteOf_40 (by decide) ?_
  refine lv_istore (lv' := [(6, .int p3), (0, .int p0), (1, .int p1), (2, .int p2), (3, .int p3), (4, .int p4), (5, .int 15)]) hx hb dX11_byteOf_45 hl (by decide) rfl (fun ls hl => ?_)
  refine lv_iload hx hb dX11_byteOf_47 (lv_at hl 0 rfl) ?_
  refine lv_bipush (v := 24) hx hb dX11_byteOf_49 (by decide) ?_
  refine lv_bipush (v := 8) hx hb dX11_byteOf_51 (by decide) ?_
  refine lv_iload hx hb dX11_byteOf_53 (lv_at hl 6 rfl) ?_
  refine lv_iconst (v := 4) hx hb dX11_byteOf_55 (by decide) ?_
  refine lv_irem hx hb dX11_byteOf_56 (by decide) ?_
  refine lv_topi (fun v_1 ev_1 => ?_)
  obtain rfl : v_1 = 3 := ev_1.trans (by decide)
  refine lv_imul hx hb dX11_byteOf_57 ?_
  refine lv_topi (fun v_2 ev_2 => ?_)
  obtain rfl : v_2 = 24 := ev_2.trans (by decide)
  refine lv_isub hx hb dX11_byteOf_58 ?_
  refine lv_topi (fun v_3 ev_3 => ?_)
  obtain rfl : v_3 = 0 := ev_3.trans (by decide)
  refine lv_ishr hx hb dX11_byteOf_59 ?_
  refine lv_sipush (v := 255) hx hb dX11_byteOf_60 (by decide) ?_
  refine lv_iand hx hb dX11_byteOf_63 ?_
  exact W.iret (v := ((p3 >>> (0 &&& 31)) &&& 255)) hx hb hr (fun t ht hW => ⟨⟨(p3 >>> (0 &&& 31)) &&& 255, (), rfl, rfl, trivial⟩, hS.F ht⟩) hS.2.2 dX11_byteOf_64
set_option maxHeartbeats 4000000 in
set_option maxRecDepth 100000 in
theorem c_X11_byteOf_16 (l : Launch) (dC : Nat → ClassId) (dI : Nat → Nat → Nat) (cI cJ : ClassId) (sz : Nat) (p0 : Int32) (p1 : Int32) (p2 : Int32) (p3 : Int32) (p4 : Int32) : Met l yX11_byteOf (.code yX11_byteOf cX11_byteOf 7 (some .int) :: wA) ({ frames := 0, cells := 0, slots := 0, locals := 0 }) (zP (dC, dI) [(cI, .int), (cJ, .long)] [.int p0, .int p1, .int p2, .int p3, .int p4, .int 16] sz []) (va_Qi (fun (r : Int32) (_ : Unit) => r = (p4 >>> (24 &&& 31)) &&& 255) (fun (_ : Unit) (_ : State) => True) (va_A [] sz)) 0 0 (va_A [] sz) := by
  refine Met.ofW (cc := cX11_byteOf) (maxL := 7) (ret := (some .int)) (by decide) rfl ?_
  intro p e s m args below meth c s₁ B hml hv
  obtain ⟨rfl, hsz, hP, hK, hT⟩ := hv
  have hx := B.exec
  have hb := B.bytes
  have hr := B.returns
  have hts : ∀ w ∈ wA, w.before _ s = true := fun w h => atoms_spec (ws := .code yX11_byteOf cX11_byteOf 7 (some .int) :: wA) B.pre w (List.mem_cons_of_mem _ h)
  have hown : s.vm.findClass RX11 = some m.cls := findClass_of_methodNamed B.named
  have hlocks := B.notSynchronized
  subst hsz
  have hD : va_D (va_A [] s.heap.size) [] := zD0
  generalize hAe : va_A [] s.heap.size = A at hD ⊢
  have hA : ∀ q : Nat, s.heap.size ≤ q → A q := fun q h => by rw [← hAe]; exact Or.inr h
  have hl := lv_entry ([.int p0, .int p1, .int p2, .int p3, .int p4, .int 16]) (n := 7) (Nat.le_of_ble_eq_true rfl)
  rw [lg_entry_eq]
  generalize (lg_sl ([.int p0, .int p1, .int p2, .int p3, .int p4, .int 16]) ++ List.replicate (7 - (lg_sl ([.int p0, .int p1, .int p2, .int p3, .int p4, .int 16])).length) Slot.unset).toArray = ls at hl ⊢
  have hl : lv_has ls 7 [(0, .int p0), (1, .int p1), (2, .int p2), (3, .int p3), (4, .int p4), (5, .int 16)] := hl
  refine zstart (fun H hH => ?_)
  rw [← hH] at hP
  have hS : va_S A s.heap H [] := by rw [hH]; exact va_S.rf
  refine lv_iload hx hb dX11_byteOf_0 (lv_at hl 5 rfl) ?_
  refine lv_iconst (v := 4) hx hb dX11_byteOf_2 (by decide) ?_
  refine lv_icmp_ge (tgt := 10) hx hb dX11_byteOf_3 (by decide) (fun _ => ?_) (fun c => absurd (by decide) c)
  refine lv_iload hx hb dX11_byteOf_10 (lv_at hl 5 rfl) ?_
  refine lv_bipush (v := 8) hx hb dX11_byteOf_12 (by decide) ?_
  refine lv_icmp_ge (tgt := 21) hx hb dX11_byteOf_14 (by decide) (fun _ => ?_) (fun c => absurd (by decide) c)
  refine lv_iload hx hb dX11_byteOf_21 (lv_at hl 5 rfl) ?_
  refine lv_bipush (v := 12) hx hb dX11_byteOf_23 (by decide) ?_
  refine lv_icmp_ge (tgt := 32) hx hb dX11_byteOf_25 (by decide) (fun _ => ?_) (fun c => absurd (by decide) c)
  refine lv_iload hx hb dX11_byteOf_32 (lv_at hl 5 rfl) ?_
  refine lv_bipush (v := 16) hx hb dX11_byteOf_34 (by decide) ?_
  refine lv_icmp_ge (tgt := 43) hx hb dX11_byteOf_36 (by decide) (fun _ => ?_) (fun c => absurd (by decide) c)
  refine lv_iload hx hb dX11_byteOf_43 (lv_at hl 4 rfl) ?_
  refine lv_istore (lv' := [(6, .int p4), (0, .int p0), (1, .int p1), (2, .int p2), (3, .int p3), (4, .int p4), (5, .int 16)]) hx hb dX11_byteOf_45 hl (by decide) rfl (fun ls hl => ?_)
  refine lv_iload hx hb dX11_byteOf_47 (lv_at hl 0 rfl) ?_
  refine lv_bipush (v := 24) hx hb dX11_byteOf_49 (by decide) ?_
  refine lv_bipush (v := 8) hx hb dX11_byteOf_51 (by decide) ?_
  refine lv_iload hx hb dX11_byteOf_53 (lv_at hl 6 rfl) ?_
  refine lv_iconst (v := 4) hx hb dX11_byteOf_55 (by decide) ?_
  refine lv_irem hx hb dX11_byteOf_56 (by decide) ?_
  refine lv_topi (fun v_1 ev_1 => ?_)
  obtain rfl : v_1 = 0 := ev_1.trans (by decide)
  refine lv_imul hx hb dX11_byteOf_57 ?_
  refine lv_topi (fun v_2 ev_2 => ?_)
  obtain rfl : v_2 = 0 := ev_2.trans (by decide)
  refine lv_isub hx hb dX11_byteOf_58 ?_
  refine lv_topi (fun v_3 ev_3 => ?_)
  obtain rfl : v_3 = 24 := ev_3.trans (by decide)
  refine lv_ishr hx hb dX11_byteOf_59 ?_
  refine lv_sipush (v := 255) hx hb dX11_byteOf_60 (by decide) ?_
  refine lv_iand hx hb dX11_byteOf_63 ?_
  exact W.iret (v := ((p4 >>> (24 &&& 31)) &&& 255)) hx hb hr (fun t ht hW => ⟨⟨(p4 >>> (24 &&& 31)) &&& 255, (), rfl, rfl, trivial⟩, hS.F ht⟩) hS.2.2 dX11_byteOf_64
set_option maxHeartbeats 4000000 in
set_option maxRecDepth 100000 in
theorem c_X11_byteOf_17 (l : Launch) (dC : Nat → ClassId) (dI : Nat → Nat → Nat) (cI cJ : ClassId) (sz : Nat) (p0 : Int32) (p1 : Int32) (p2 : Int32) (p3 : Int32) (p4 : Int32) : Met l yX11_byteOf (.code yX11_byteOf cX11_byteOf 7 (some .int) :: wA) ({ frames := 0, cells := 0, slots := 0, locals := 0 }) (zP (dC, dI) [(cI, .int), (cJ, .long)] [.int p0, .int p1, .int p2, .int p3, .int p4, .int 17] sz []) (va_Qi (fun (r : Int32) (_ : Unit) => r = (p4 >>> (16 &&& 31)) &&& 255) (fun (_ : Unit) (_ : State) => True) (va_A [] sz)) 0 0 (va_A [] sz) := by
  refine Met.ofW (cc := cX11_byteOf) (maxL := 7) (ret := (some .int)) (by decide) rfl ?_
  intro p e s m args below meth c s₁ B hml hv
  obtain ⟨rfl, hsz, hP, hK, hT⟩ := hv
  have hx := B.exec
  have hb := B.bytes
  have hr := B.returns
  have hts : ∀ w ∈ wA, w.before _ s = true := fun w h => atoms_spec (ws := .code yX11_byteOf cX11_byteOf 7 (some .int) :: wA) B.pre w (List.mem_cons_of_mem _ h)
  have hown : s.vm.findClass RX11 = some m.cls := findClass_of_methodNamed B.named
  have hlocks := B.notSynchronized
  subst hsz
  have hD : va_D (va_A [] s.heap.size) [] := zD0
  generalize hAe : va_A [] s.heap.size = A at hD ⊢
  have hA : ∀ q : Nat, s.heap.size ≤ q → A q := fun q h => by rw [← hAe]; exact Or.inr h
  have hl := lv_entry ([.int p0, .int p1, .int p2, .int p3, .int p4, .int 17]) (n := 7) (Nat.le_of_ble_eq_true rfl)
  rw [lg_entry_eq]
  generalize (lg_sl ([.int p0, .int p1, .int p2, .int p3, .int p4, .int 17]) ++ List.replicate (7 - (lg_sl ([.int p0, .int p1, .int p2, .int p3, .int p4, .int 17])).length) Slot.unset).toArray = ls at hl ⊢
  have hl : lv_has ls 7 [(0, .int p0), (1, .int p1), (2, .int p2), (3, .int p3), (4, .int p4), (5, .int 17)] := hl
  refine zstart (fun H hH => ?_)
  rw [← hH] at hP
  have hS : va_S A s.heap H [] := by rw [hH]; exact va_S.rf
  refine lv_iload hx hb dX11_byteOf_0 (lv_at hl 5 rfl) ?_
  refine lv_iconst (v := 4) hx hb dX11_byteOf_2 (by decide) ?_
  refine lv_icmp_ge (tgt := 10) hx hb dX11_byteOf_3 (by decide) (fun _ => ?_) (fun c => absurd (by decide) c)
  refine lv_iload hx hb dX11_byteOf_10 (lv_at hl 5 rfl) ?_
  refine lv_bipush (v := 8) hx hb dX11_byteOf_12 (by decide) ?_
  refine lv_icmp_ge (tgt := 21) hx hb dX11_byteOf_14 (by decide) (fun _ => ?_) (fun c => absurd (by decide) c)
  refine lv_iload hx hb dX11_byteOf_21 (lv_at hl 5 rfl) ?_
  refine lv_bipush (v := 12) hx hb dX11_byteOf_23 (by decide) ?_
  refine lv_icmp_ge (tgt := 32) hx hb dX11_byteOf_25 (by decide) (fun _ => ?_) (fun c => absurd (by decide) c)
  refine lv_iload hx hb dX11_byteOf_32 (lv_at hl 5 rfl) ?_
  refine lv_bipush (v := 16) hx hb dX11_byteOf_34 (by decide) ?_
  refine lv_icmp_ge (tgt := 43) hx hb dX11_byteOf_36 (by decide) (fun _ => ?_) (fun c => absurd (by decide) c)
  refine lv_iload hx hb dX11_byteOf_43 (lv_at hl 4 rfl) ?_
  refine lv_istore (lv' := [(6, .int p4), (0, .int p0), (1, .int p1), (2, .int p2), (3, .int p3), (4, .int p4), (5, .int 17)]) hx hb dX11_byteOf_45 hl (by decide) rfl (fun ls hl => ?_)
  refine lv_iload hx hb dX11_byteOf_47 (lv_at hl 0 rfl) ?_
  refine lv_bipush (v := 24) hx hb dX11_byteOf_49 (by decide) ?_
  refine lv_bipush (v := 8) hx hb dX11_byteOf_51 (by decide) ?_
  refine lv_iload hx hb dX11_byteOf_53 (lv_at hl 6 rfl) ?_
  refine lv_iconst (v := 4) hx hb dX11_byteOf_55 (by decide) ?_
  refine lv_irem hx hb dX11_byteOf_56 (by decide) ?_
  refine lv_topi (fun v_1 ev_1 => ?_)
  obtain rfl : v_1 = 1 := ev_1.trans (by decide)
  refine lv_imul hx hb dX11_byteOf_57 ?_
  refine lv_topi (fun v_2 ev_2 => ?_)
  obtain rfl : v_2 = 8 := ev_2.trans (by decide)
  refine lv_isub hx hb dX11_byteOf_58 ?_
  refine lv_topi (fun v_3 ev_3 => ?_)
  obtain rfl : v_3 = 16 := ev_3.trans (by decide)
  refine lv_ishr hx hb dX11_byteOf_59 ?_
  refine lv_sipush (v := 255) hx hb dX11_byteOf_60 (by decide) ?_
  refine lv_iand hx hb dX11_byteOf_63 ?_
  exact W.iret (v := ((p4 >>> (16 &&& 31)) &&& 255)) hx hb hr (fun t ht hW => ⟨⟨(p4 >>> (16 &&& 31)) &&& 255, (), rfl, rfl, trivial⟩, hS.F ht⟩) hS.2.2 dX11_byteOf_64
set_option maxHeartbeats 4000000 in
set_option maxRecDepth 100000 in
theorem c_X11_byteOf_18 (l : Launch) (dC : Nat → ClassId) (dI : Nat → Nat → Nat) (cI cJ : ClassId) (sz : Nat) (p0 : Int32) (p1 : Int32) (p2 : Int32) (p3 : Int32) (p4 : Int32) : Met l yX11_byteOf (.code yX11_byteOf cX11_byteOf 7 (some .int) :: wA) ({ frames := 0, cells := 0, slots := 0, locals := 0 }) (zP (dC, dI) [(cI, .int), (cJ, .long)] [.int p0, .int p1, .int p2, .int p3, .int p4, .int 18] sz []) (va_Qi (fun (r : Int32) (_ : Unit) => r = (p4 >>> (8 &&& 31)) &&& 255) (fun (_ : Unit) (_ : State) => True) (va_A [] sz)) 0 0 (va_A [] sz) := by
  refine Met.ofW (cc := cX11_byteOf) (maxL := 7) (ret := (some .int)) (by decide) rfl ?_
  intro p e s m args below meth c s₁ B hml hv
  obtain ⟨rfl, hsz, hP, hK, hT⟩ := hv
  have hx := B.exec
  have hb := B.bytes
  have hr := B.returns
  have hts : ∀ w ∈ wA, w.before _ s = true := fun w h => atoms_spec (ws := .code yX11_byteOf cX11_byteOf 7 (some .int) :: wA) B.pre w (List.mem_cons_of_mem _ h)
  have hown : s.vm.findClass RX11 = some m.cls := findClass_of_methodNamed B.named
  have hlocks := B.notSynchronized
  subst hsz
  have hD : va_D (va_A [] s.heap.size) [] := zD0
  generalize hAe : va_A [] s.heap.size = A at hD ⊢
  have hA : ∀ q : Nat, s.heap.size ≤ q → A q := fun q h => by rw [← hAe]; exact Or.inr h
  have hl := lv_entry ([.int p0, .int p1, .int p2, .int p3, .int p4, .int 18]) (n := 7) (Nat.le_of_ble_eq_true rfl)
  rw [lg_entry_eq]
  generalize (lg_sl ([.int p0, .int p1, .int p2, .int p3, .int p4, .int 18]) ++ List.replicate (7 - (lg_sl ([.int p0, .int p1, .int p2, .int p3, .int p4, .int 18])).length) Slot.unset).toArray = ls at hl ⊢
  have hl : lv_has ls 7 [(0, .int p0), (1, .int p1), (2, .int p2), (3, .int p3), (4, .int p4), (5, .int 18)] := hl
  refine zstart (fun H hH => ?_)
  rw [← hH] at hP
  have hS : va_S A s.heap H [] := by rw [hH]; exact va_S.rf
  refine lv_iload hx hb dX11_byteOf_0 (lv_at hl 5 rfl) ?_
  refine lv_iconst (v := 4) hx hb dX11_byteOf_2 (by decide) ?_
  refine lv_icmp_ge (tgt := 10) hx hb dX11_byteOf_3 (by decide) (fun _ => ?_) (fun c => absurd (by decide) c)
  refine lv_iload hx hb dX11_byteOf_10 (lv_at hl 5 rfl) ?_
  refine lv_bipush (v := 8) hx hb dX11_byteOf_12 (by decide) ?_
  refine lv_icmp_ge (tgt := 21) hx hb dX11_byteOf_14 (by decide) (fun _ => ?_) (fun c => absurd (by decide) c)
  refine lv_iload hx hb dX11_byteOf_21 (lv_at hl 5 rfl) ?_
  refine lv_bipush (v := 12) hx hb dX11_byteOf_23 (by decide) ?_
  refine lv_icmp_ge (tgt := 32) hx hb dX11_byteOf_25 (by decide) (fun _ => ?_) (fun c => absurd (by decide) c)
  refine lv_iload hx hb dX11_byteOf_32 (lv_at hl 5 rfl) ?_
  refine lv_bipush (v := 16) hx hb dX11_byteOf_34 (by decide) ?_
  refine lv_icmp_ge (tgt := 43) hx hb dX11_byteOf_36 (by decide) (fun _ => ?_) (fun c => absurd (by decide) c)
  refine lv_iload hx hb dX11_byteOf_43 (lv_at hl 4 rfl) ?_
  refine lv_istore (lv' := [(6, .int p4), (0, .int p0), (1, .int p1), (2, .int p2), (3, .int p3), (4, .int p4), (5, .int 18)]) hx hb dX11_byteOf_45 hl (by decide) rfl (fun ls hl => ?_)
  refine lv_iload hx hb dX11_byteOf_47 (lv_at hl 0 rfl) ?_
  refine lv_bipush (v := 24) hx hb dX11_byteOf_49 (by decide) ?_
  refine lv_bipush (v := 8) hx hb dX11_byteOf_51 (by decide) ?_
  refine lv_iload hx hb dX11_byteOf_53 (lv_at hl 6 rfl) ?_
  refine lv_iconst (v := 4) hx hb dX11_byteOf_55 (by decide) ?_
  refine lv_irem hx hb dX11_byteOf_56 (by decide) ?_
  refine lv_topi (fun v_1 ev_1 => ?_)
  obtain rfl : v_1 = 2 := ev_1.trans (by decide)
  refine lv_imul hx hb dX11_byteOf_57 ?_
  refine lv_topi (fun v_2 ev_2 => ?_)
  obtain rfl : v_2 = 16 := ev_2.trans (by decide)
  refine lv_isub hx hb dX11_byteOf_58 ?_
  refine lv_topi (fun v_3 ev_3 => ?_)
  obtain rfl : v_3 = 8 := ev_3.trans (by decide)
  refine lv_ishr hx hb dX11_byteOf_59 ?_
  refine lv_sipush (v := 255) hx hb dX11_byteOf_60 (by decide) ?_
  refine lv_iand hx hb dX11_byteOf_63 ?_
  exact W.iret (v := ((p4 >>> (8 &&& 31)) &&& 255)) hx hb hr (fun t ht hW => ⟨⟨(p4 >>> (8 &&& 31)) &&& 255, (), rfl, rfl, trivial⟩, hS.F ht⟩) hS.2.2 dX11_byteOf_64
set_option maxHeartbeats 4000000 in
set_option maxRecDepth 100000 in
theorem c_X11_byteOf_19 (l : Launch) (dC : Nat → ClassId) (dI : Nat → Nat → Nat) (cI cJ : ClassId) (sz : Nat) (p0 : Int32) (p1 : Int32) (p2 : Int32) (p3 : Int32) (p4 : Int32) : Met l yX11_byteOf (.code yX11_byteOf cX11_byteOf 7 (some .int) :: wA) ({ frames := 0, cells := 0, slots := 0, locals := 0 }) (zP (dC, dI) [(cI, .int), (cJ, .long)] [.int p0, .int p1, .int p2, .int p3, .int p4, .int 19] sz []) (va_Qi (fun (r : Int32) (_ : Unit) => r = (p4 >>> (0 &&& 31)) &&& 255) (fun (_ : Unit) (_ : State) => True) (va_A [] sz)) 0 0 (va_A [] sz) := by
  refine Met.ofW (cc := cX11_byteOf) (maxL := 7) (ret := (some .int)) (by decide) rfl ?_
  intro p e s m args below meth c s₁ B hml hv
  obtain ⟨rfl, hsz, hP, hK, hT⟩ := hv
  have hx := B.exec
  have hb := B.bytes
  have hr := B.returns
  have hts : ∀ w ∈ wA, w.before _ s = true := fun w h => atoms_spec (ws := .code yX11_byteOf cX11_byteOf 7 (some .int) :: wA) B.pre w (List.mem_cons_of_mem _ h)
  have hown : s.vm.findClass RX11 = some m.cls := findClass_of_methodNamed B.named
  have hlocks := B.notSynchronized
  subst hsz
  have hD : va_D (va_A [] s.heap.size) [] := zD0
  generalize hAe : va_A [] s.heap.size = A at hD ⊢
  have hA : ∀ q : Nat, s.heap.size ≤ q → A q := fun q h => by rw [← hAe]; exact Or.inr h
  have hl := lv_entry ([.int p0, .int p1, .int p2, .int p3, .int p4, .int 19]) (n := 7) (Nat.le_of_ble_eq_true rfl)
  rw [lg_entry_eq]
  generalize (lg_sl ([.int p0, .int p1, .int p2, .int p3, .int p4, .int 19]) ++ List.replicate (7 - (lg_sl ([.int p0, .int p1, .int p2, .int p3, .int p4, .int 19])).length) Slot.unset).toArray = ls at hl ⊢
  have hl : lv_has ls 7 [(0, .int p0), (1, .int p1), (2, .int p2), (3, .int p3), (4, .int p4), (5, .int 19)] := hl
  refine zstart (fun H hH => ?_)
  rw [← hH] at hP
  have hS : va_S A s.heap H [] := by rw [hH]; exact va_S.rf
  refine lv_iload hx hb dX11_byteOf_0 (lv_at hl 5 rfl) ?_
  refine lv_iconst (v := 4) hx hb dX11_byteOf_2 (by decide) ?_
  refine lv_icmp_ge (tgt := 10) hx hb dX11_byteOf_3 (by decide) (fun _ => ?_) (fun c => absurd (by decide) c)
  refine lv_iload hx hb dX11_byteOf_10 (lv_at hl 5 rfl) ?_
  refine lv_bipush (v := 8) hx hb dX11_byteOf_12 (by decide) ?_
  refine lv_icmp_ge (tgt := 21) hx hb dX11_byteOf_14 (by decide) (fun _ => ?_) (fun c => absurd (by decide) c)
  refine lv_iload hx hb dX11_byteOf_21 (lv_at hl 5 rfl) ?_
  refine lv_bipush (v := 12) hx hb dX11_byteOf_23 (by decide) ?_
  refine lv_icmp_ge (tgt := 32) hx hb dX11_byteOf_25 (by decide) (fun _ => ?_) (fun c => absurd (by decide) c)
  refine lv_iload hx hb dX11_byteOf_32 (lv_at hl 5 rfl) ?_
  refine lv_bipush (v := 16) hx hb dX11_byteOf_34 (by decide) ?_
  refine lv_icmp_ge (tgt := 43) hx hb dX11_byteOf_36 (by decide) (fun _ => ?_) (fun c => absurd (by decide) c)
  refine lv_iload hx hb dX11_byteOf_43 (lv_at hl 4 rfl) ?_
  refine lv_istore (lv' := [(6, .int p4), (0, .int p0), (1, .int p1), (2, .int p2), (3, .int p3), (4, .int p4), (5, .int 19)]) hx hb dX11_byteOf_45 hl (by decide) rfl (fun ls hl => ?_)
  refine lv_iload hx hb dX11_byteOf_47 (lv_at hl 0 rfl) ?_
  refine lv_bipush (v := 24) hx hb dX11_byteOf_49 (by decide) ?_
  refine lv_bipush (v := 8) hx hb dX11_byteOf_51 (by decide) ?_
  refine lv_iload hx hb dX11_byteOf_53 (lv_at hl 6 rfl) ?_
  refine lv_iconst (v := 4) hx hb dX11_byteOf_55 (by decide) ?_
  refine lv_irem hx hb dX11_byteOf_56 (by decide) ?_
  refine lv_topi (fun v_1 ev_1 => ?_)
  obtain rfl : v_1 = 3 := ev_1.trans (by decide)
  refine lv_imul hx hb dX11_byteOf_57 ?_
  refine lv_topi (fun v_2 ev_2 => ?_)
  obtain rfl : v_2 = 24 := ev_2.trans (by decide)
  refine lv_isub hx hb dX11_byteOf_58 ?_
  refine lv_topi (fun v_3 ev_3 => ?_)
  obtain rfl : v_3 = 0 := ev_3.trans (by decide)
  refine lv_ishr hx hb dX11_byteOf_59 ?_
  refine lv_sipush (v := 255) hx hb dX11_byteOf_60 (by decide) ?_
  refine lv_iand hx hb dX11_byteOf_63 ?_
  exact W.iret (v := ((p4 >>> (0 &&& 31)) &&& 255)) hx hb hr (fun t ht hW => ⟨⟨(p4 >>> (0 &&& 31)) &&& 255, (), rfl, rfl, trivial⟩, hS.F ht⟩) hS.2.2 dX11_byteOf_64
def zk (a b c d e : Int32) (j : Nat) : Int32 := zbt (if j < 4 then a else if j < 8 then b else if j < 12 then c else if j < 16 then d else e) (24 - 8 * (j % 4))
def zn (a b c d e : Int32) : Nat → Nat
  | 0 => 0
  | j + 1 => zn a b c d e j + zo (zk a b c d e j)
theorem zn_le (a b c d e : Int32) : ∀ j : Nat, zn a b c d e j ≤ j
  | 0 => Nat.le_refl 0
  | j + 1 => Nat.add_le_add (zn_le a b c d e j) (zo_le _)
theorem zn_all (a b c d e : Int32) : zn a b c d e 20 = 0 + zc4 a + zc4 b + zc4 c + zc4 d + zc4 e := by
  simp only [zn, zk, zc4]
  simp only [show (0 : Nat) < 4 by decide, ↓reduceIte]
  simp
  omega
set_option maxRecDepth 100000 in
theorem c_byteOf (l : Launch) (dC : Nat → ClassId) (dI : Nat → Nat → Nat) (cI cJ : ClassId) (sz : Nat) (p0 p1 p2 p3 p4 : Int32) (j : Nat) (hj : j < 20) : Met l yX11_byteOf (.code yX11_byteOf cX11_byteOf 7 (some .int) :: wA) ({ frames := 0, cells := 0, slots := 0, locals := 0 }) (zP (dC, dI) [(cI, .int), (cJ, .long)] [.int p0, .int p1, .int p2, .int p3, .int p4, .int (nI j)] sz []) (va_Qi (fun (r : Int32) (_ : Unit) => r = zk p0 p1 p2 p3 p4 j) (fun (_ : Unit) (_ : State) => True) (va_A [] sz)) 0 0 (va_A [] sz) := by
  match j, hj with
  | 0, _ => exact c_X11_byteOf l dC dI cI cJ sz p0 p1 p2 p3 p4
  | 1, _ => exact c_X11_byteOf_1 l dC dI cI cJ sz p0 p1 p2 p3 p4
  | 2, _ => exact c_X11_byteOf_2 l dC dI cI cJ sz p0 p1 p2 p3 p4
  | 3, _ => exact c_X11_byteOf_3 l dC dI cI cJ sz p0 p1 p2 p3 p4
  | 4, _ => exact c_X11_byteOf_4 l dC dI cI cJ sz p0 p1 p2 p3 p4
  | 5, _ => exact c_X11_byteOf_5 l dC dI cI cJ sz p0 p1 p2 p3 p4
  | 6, _ => exact c_X11_byteOf_6 l dC dI cI cJ sz p0 p1 p2 p3 p4
  | 7, _ => exact c_X11_byteOf_7 l dC dI cI cJ sz p0 p1 p2 p3 p4
  | 8, _ => exact c_X11_byteOf_8 l dC dI cI cJ sz p0 p1 p2 p3 p4
  | 9, _ => exact c_X11_byteOf_9 l dC dI cI cJ sz p0 p1 p2 p3 p4
  | 10, _ => exact c_X11_byteOf_10 l dC dI cI cJ sz p0 p1 p2 p3 p4
  | 11, _ => exact c_X11_byteOf_11 l dC dI cI cJ sz p0 p1 p2 p3 p4
  | 12, _ => exact c_X11_byteOf_12 l dC dI cI cJ sz p0 p1 p2 p3 p4
  | 13, _ => exact c_X11_byteOf_13 l dC dI cI cJ sz p0 p1 p2 p3 p4
  | 14, _ => exact c_X11_byteOf_14 l dC dI cI cJ sz p0 p1 p2 p3 p4
  | 15, _ => exact c_X11_byteOf_15 l dC dI cI cJ sz p0 p1 p2 p3 p4
  | 16, _ => exact c_X11_byteOf_16 l dC dI cI cJ sz p0 p1 p2 p3 p4
  | 17, _ => exact c_X11_byteOf_17 l dC dI cI cJ sz p0 p1 p2 p3 p4
  | 18, _ => exact c_X11_byteOf_18 l dC dI cI cJ sz p0 p1 p2 p3 p4
  | 19, _ => exact c_X11_byteOf_19 l dC dI cI cJ sz p0 p1 p2 p3 p4
  | k + 20, h => exact absurd h (by omega)
abbrev zMw (cI : ClassId) (h0 h1 h2 h3 h4 h5 h6 h7 h8 h9 h10 h11 h12 h13 h14 h15 h16 h17 h18 h19 h20 h21 h22 h23 : Nat) (k : Nat) (f : Nat → Int32) : va_W := [(h0, .inr (11, [.int 0, .ref h1, .int (nI k), .int 0, .int 0, .int 0, .ref h2, .ref h3, .ref h4, .ref h5, .ref h6, .ref h7, .ref h8, .int 0, .int 0, .ref h9, .ref h10, .ref h11, .ref h12, .ref h13, .int 0, .int 0, .ref h14, .ref h15, .ref h16, .int 0, .int 0, .ref h17, .ref h18, .int (-1), .int 0, .ref h19, .int 0, .long 0, .ref h20, .int 0, .int 0, .ref h21, .ref h22, .ref h23, .int 0])), (h1, .inl (cI, 240, .inl f))]
theorem zadd0 (n : Nat) : nI n + 0 = nI (n + 0) := nI_add n 0
set_option maxHeartbeats 4000000 in
set_option maxRecDepth 100000 in
/-- the first loop: how many of the twenty bytes are not 0 -/
theorem mfeed_1 {p : Program} {l : Launch} {e : Env} {R : Room} {s : State} {m : MethodId} {args : Array Value} {below : List Frame} {meth : Method} {c : Code} {Q : State → Prop} {cells slots : Nat} {dC : Nat → ClassId} {dI : Nat → Nat → Nat} {cI cJ : ClassId} {A : Nat → Prop} {h0 h1 h2 h3 h4 h5 h6 h7 h8 h9 h10 h11 h12 h13 h14 h15 h16 h17 h18 h19 h20 h21 h22 h23 : Nat} {p0 p1 p2 p3 p4 : Int32} (hx : p.tables.exec = Jvm.exec) (hb : c.code = cX11_feed) (hml : c.maxLocals = 9) (hown : s.vm.findClass RX11 = some m.cls) (hts : ∀ w ∈ wA, w.before args s = true) (hK : va_K (dC, dI) vwCl [(cI, .int), (cJ, .long)] s) (hA : ∀ q : Nat, s.heap.size ≤ q → A q) (hf : 1 ≤ R.frames) (hlo : 26 ≤ R.locals) (hc : cells ≤ R.cells) (hs : slots ≤ R.slots) : ∀ (d j : Nat), j + d = 20 → ∀ (H : Heap) (locs : List Loc) (ls : Array Slot) (f : Nat → Int32) (k : Nat), va_P (dC, dI) vwCl (zMw cI h0 h1 h2 h3 h4 h5 h6 h7 h8 h9 h10 h11 h12 h13 h14 h15 h16 h17 h18 h19 h20 h21 h22 h23 k f) H → va_S A s.heap H locs → lv_has ls 9 [(0, .ref h0), (1, .int p0), (2, .int p1), (3, .int p2), (4, .int p3), (5, .int p4), (6, .int (nI (zn p0 p1 p2 p3 p4 j))), (7, .int (nI j))] → (∀ (H : Heap) (locs : List Loc) (ls : Array Slot), va_P (dC, dI) vwCl (zMw cI h0 h1 h2 h3 h4 h5 h6 h7 h8 h9 h10 h11 h12 h13 h14 h15 h16 h17 h18 h19 h20 h21 h22 h23 k f) H → va_S A s.heap H locs → lv_has ls 9 [(0, .ref h0), (1, .int p0), (2, .int p1), (3, .int p2), (4, .int p3), (5, .int p4), (6, .int (nI (zn p0 p1 p2 p3 p4 20)))] → W p l e R s m args below meth c H locs cells slots Q (F0 m 44 ls [])) → W p l e R s m args below meth c H locs cells slots Q (F0 m 6 ls []) := by
  intro d
  induction d with
  | zero =>
    intro j hj H locs ls f k hP hS hl kk
    obtain rfl : j = 20 := by omega
    refine lv_iload hx hb dX11_feed_6 (lv_at hl 7 rfl) ?_
    refine lv_bipush (v := 20) hx hb dX11_feed_8 (by decide) ?_
    refine lv_icmp_ge (tgt := 44) hx hb dX11_feed_10 (by decide) (fun _ => ?_) (fun q => absurd (by decide) q)
    exact kk H locs ls hP hS (lv_sub hl [0, 1, 2, 3, 4, 5, 6] rfl)
  | succ d ih =>
    intro j hj H locs ls f k hP hS hl kk
    refine lv_iload hx hb dX11_feed_6 (lv_at hl 7 rfl) ?_
    refine lv_bipush (v := 20) hx hb dX11_feed_8 (by decide) ?_
    refine lv_icmp_ge (tgt := 44) hx hb dX11_feed_10 (by decide) (fun q => absurd ((nI_leI (a := 20) (b := j) (by omega) (by omega)).mp q) (by omega)) (fun _ => ?_)
    refine lv_iload hx hb dX11_feed_13 (lv_at hl 6 rfl) ?_
    refine lv_iload_n hx hb dX11_feed_15 rfl (lv_at hl 1 rfl) ?_
    refine lv_iload_n hx hb dX11_feed_16 rfl (lv_at hl 2 rfl) ?_
    refine lv_iload_n hx hb dX11_feed_17 rfl (lv_at hl 3 rfl) ?_
    refine lv_iload hx hb dX11_feed_18 (lv_at hl 4 rfl) ?_
    refine lv_iload hx hb dX11_feed_20 (lv_at hl 5 rfl) ?_
    refine lv_iload hx hb dX11_feed_22 (lv_at hl 7 rfl) ?_
    have hFc := zfr hS hA
    refine va_calli (va_runS (As := [.int p0, .int p1, .int p2, .int p3, .int p4, .int (nI j)]) (rest := [.int (nI (zn p0 p1 p2 p3 p4 j))]) ⟨hx, hb, hml, hown, hts⟩ (c_byteOf l dC dI cI cJ H.size p0 p1 p2 p3 p4 j (by omega)) (cwS 6 hts (zgS qw1259 qw1260 qw108 qw1261) rfl rfl rfl hd_X11_byteOf ⟨by simpa using hf, by simpa using hlo⟩) (zPS zP0 hK (A := fun _ => True) zD0) rfl rfl hl.1 rfl (lv_room (Nat.le_of_ble_eq_true rfl)) dX11_feed_24 ⟨hc, hs⟩) hS (fun q _ h => hFc q h) hFc (fun r u t H locs ht hvm hw hB hz1 hk1 hS => ?_)
    have hP := zkeep hP hk1
    have hw : r = zk p0 p1 p2 p3 p4 j := hw
    refine lv_if_eq (tgt := 34) hx hb dX11_feed_27 (by decide) (fun c0 => ?_) (fun c0 => ?_)
    · have e1 : zo (zk p0 p1 p2 p3 p4 j) = 0 := by rw [← hw, c0]; rfl
      refine lv_iconst (v := 0) hx hb dX11_feed_34 (by decide) ?_
      refine lv_iadd hx hb dX11_feed_35 ?_
      refine lv_topi (fun z ez => ?_)
      obtain rfl : z = nI (zn p0 p1 p2 p3 p4 (j + 1)) := ez.trans (by rw [show zn p0 p1 p2 p3 p4 (j + 1) = zn p0 p1 p2 p3 p4 j + zo (zk p0 p1 p2 p3 p4 j) from rfl, e1]; exact zadd0 _)
      refine lv_istore (lv' := [(6, .int (nI (zn p0 p1 p2 p3 p4 (j + 1)))), (0, .ref h0), (1, .int p0), (2, .int p1), (3, .int p2), (4, .int p3), (5, .int p4), (7, .int (nI j))]) hx hb dX11_feed_36 hl (by decide) rfl (fun ls hl => ?_)
      refine lv_iinc (v := nI (j + 1)) (lv' := [(7, .int (nI (j + 1))), (6, .int (nI (zn p0 p1 p2 p3 p4 (j + 1)))), (0, .ref h0), (1, .int p0), (2, .int p1), (3, .int p2), (4, .int p3), (5, .int p4)]) hx hb dX11_feed_38 hl (k := 7) rfl (nI_1 j) (by decide) rfl (fun ls hl => ?_)
      refine lv_goto (tgt := 6) hx hb dX11_feed_41 (by decide) ?_
      exact ih (j + 1) (by omega) H locs ls f k hP hS (lv_sub hl [2, 3, 4, 5, 6, 7, 1, 0] rfl) kk
    · have e1 : zo (zk p0 p1 p2 p3 p4 j) = 1 := by rw [← hw]; exact if_neg c0
      refine lv_iconst (v := 1) hx hb dX11_feed_30 (by decide) ?_
      refine lv_goto (tgt := 35) hx hb dX11_feed_31 (by decide) ?_
      refine lv_iadd hx hb dX11_feed_35 ?_
      refine lv_topi (fun z ez => ?_)
      obtain rfl : z = nI (zn p0 p1 p2 p3 p4 (j + 1)) := ez.trans (by rw [show zn p0 p1 p2 p3 p4 (j + 1) = zn p0 p1 p2 p3 p4 j + zo (zk p0 p1 p2 p3 p4 j) from rfl, e1]; exact nI_1 _)
      refine lv_istore (lv' := [(6, .int (nI (zn p0 p1 p2 p3 p4 (j + 1)))), (0, .ref h0), (1, .int p0), (2, .int p1), (3, .int p2), (4, .int p3), (5, .int p4), (7, .int (nI j))]) hx hb dX11_feed_36 hl (by decide) rfl (fun ls hl => ?_)
      refine lv_iinc (v := nI (j + 1)) (lv' := [(7, .int (nI (j + 1))), (6, .int (nI (zn p0 p1 p2 p3 p4 (j + 1)))), (0, .ref h0), (1, .int p0), (2, .int p1), (3, .int p2), (4, .int p3), (5, .int p4)]) hx hb dX11_feed_38 hl (k := 7) rfl (nI_1 j) (by decide) rfl (fun ls hl => ?_)
      refine lv_goto (tgt := 6) hx hb dX11_feed_41 (by decide) ?_
      exact ih (j + 1) (by omega) H locs ls f k hP hS (lv_sub hl [2, 3, 4, 5, 6, 7, 1, 0] rfl) kk
set_option maxHeartbeats 4000000 in
set_option maxRecDepth 100000 in
/-- the second loop: they are put behind one another -/
theorem mfeed_2 {p : Program} {l : Launch} {e : Env} {R : Room} {s : State} {m : MethodId} {args : Array Value} {below : List Frame} {meth : Method} {c : Code} {Q : State → Prop} {cells slots : Nat} {dC : Nat → ClassId} {dI : Nat → Nat → Nat} {cI cJ : ClassId} {A : Nat → Prop} {h0 h1 h2 h3 h4 h5 h6 h7 h8 h9 h10 h11 h12 h13 h14 h15 h16 h17 h18 h19 h20 h21 h22 h23 : Nat} {p0 p1 p2 p3 p4 : Int32} (hx : p.tables.exec = Jvm.exec) (hb : c.code = cX11_feed) (hml : c.maxLocals = 9) (hown : s.vm.findClass RX11 = some m.cls) (hts : ∀ w ∈ wA, w.before args s = true) (hK : va_K (dC, dI) vwCl [(cI, .int), (cJ, .long)] s) (hA : ∀ q : Nat, s.heap.size ≤ q → A q) (hf : 1 ≤ R.frames) (hlo : 26 ≤ R.locals) (hc : cells ≤ R.cells) (hs : slots ≤ R.slots) : ∀ (d j : Nat), j + d = 20 → ∀ (H : Heap) (locs : List Loc) (ls : Array Slot) (f : Nat → Int32), va_P (dC, dI) vwCl (zMw cI h0 h1 h2 h3 h4 h5 h6 h7 h8 h9 h10 h11 h12 h13 h14 h15 h16 h17 h18 h19 h20 h21 h22 h23 (zn p0 p1 p2 p3 p4 j) f) H → va_D A (zMw cI h0 h1 h2 h3 h4 h5 h6 h7 h8 h9 h10 h11 h12 h13 h14 h15 h16 h17 h18 h19 h20 h21 h22 h23 (zn p0 p1 p2 p3 p4 j) f) → va_S A s.heap H locs → lv_has ls 9 [(0, .ref h0), (1, .int p0), (2, .int p1), (3, .int p2), (4, .int p3), (5, .int p4), (7, .int (nI j))] → (∀ (H : Heap) (locs : List Loc) (ls : Array Slot) (f : Nat → Int32), va_P (dC, dI) vwCl (zMw cI h0 h1 h2 h3 h4 h5 h6 h7 h8 h9 h10 h11 h12 h13 h14 h15 h16 h17 h18 h19 h20 h21 h22 h23 (zn p0 p1 p2 p3 p4 20) f) H → va_D A (zMw cI h0 h1 h2 h3 h4 h5 h6 h7 h8 h9 h10 h11 h12 h13 h14 h15 h16 h17 h18 h19 h20 h21 h22 h23 (zn p0 p1 p2 p3 p4 20) f) → va_S A s.heap H locs → lv_has ls 9 [(0, .ref h0), (1, .int p0), (2, .int p1), (3, .int p2), (4, .int p3), (5, .int p4)] → W p l e R s m args below meth c H locs cells slots Q (F0 m 115 ls [])) → W p l e R s m args below meth c H locs cells slots Q (F0 m 62 ls []) := by
  intro d
  induction d with
  | zero =>
    intro j hj H locs ls f hP hD hS hl kk
    obtain rfl : j = 20 := by omega
    refine lv_iload hx hb dX11_feed_62 (lv_at hl 6 rfl) ?_
    refine lv_bipush (v := 20) hx hb dX11_feed_64 (by decide) ?_
    refine lv_icmp_ge (tgt := 115) hx hb dX11_feed_66 (by decide) (fun _ => ?_) (fun q => absurd (by decide) q)
    exact kk H locs ls f hP hD hS (lv_sub hl [0, 1, 2, 3, 4, 5] rfl)
  | succ d ih =>
    intro j hj H locs ls f hP hD hS hl kk
    have hle := zn_le p0 p1 p2 p3 p4 j
    refine lv_iload hx hb dX11_feed_62 (lv_at hl 6 rfl) ?_
    refine lv_bipush (v := 20) hx hb dX11_feed_64 (by decide) ?_
    refine lv_icmp_ge (tgt := 115) hx hb dX11_feed_66 (by decide) (fun q => absurd ((nI_leI (a := 20) (b := j) (by omega) (by omega)).mp q) (by omega)) (fun _ => ?_)
    refine lv_iload_n hx hb dX11_feed_69 rfl (lv_at hl 1 rfl) ?_
    refine lv_iload_n hx hb dX11_feed_70 rfl (lv_at hl 2 rfl) ?_
    refine lv_iload_n hx hb dX11_feed_71 rfl (lv_at hl 3 rfl) ?_
    refine lv_iload hx hb dX11_feed_72 (lv_at hl 4 rfl) ?_
    refine lv_iload hx hb dX11_feed_74 (lv_at hl 5 rfl) ?_
    refine lv_iload hx hb dX11_feed_76 (lv_at hl 6 rfl) ?_
    have hFc := zfr hS hA
    refine va_calli (va_runS (As := [.int p0, .int p1, .int p2, .int p3, .int p4, .int (nI j)]) (rest := []) ⟨hx, hb, hml, hown, hts⟩ (c_byteOf l dC dI cI cJ H.size p0 p1 p2 p3 p4 j (by omega)) (cwS 6 hts (zgS qw1259 qw1260 qw108 qw1261) rfl rfl rfl hd_X11_byteOf ⟨by simpa using hf, by simpa using hlo⟩) (zPS zP0 hK (A := fun _ => True) zD0) rfl rfl hl.1 rfl (lv_room (Nat.le_of_ble_eq_true rfl)) dX11_feed_78 ⟨hc, hs⟩) hS (fun q _ h => hFc q h) hFc (fun r u t H locs ht hvm hw hB hz1 hk1 hS => ?_)
    have hP := zkeep hP hk1
    have hw : r = zk p0 p1 p2 p3 p4 j := hw
    refine lv_istore (lv' := [(8, .int r), (0, .ref h0), (1, .int p0), (2, .int p1), (3, .int p2), (4, .int p3), (5, .int p4), (7, .int (nI j))]) hx hb dX11_feed_81 hl (by decide) rfl (fun ls hl => ?_)
    refine lv_iload hx hb dX11_feed_83 (lv_at hl 0 rfl) ?_
    refine lv_if_eq (tgt := 109) hx hb dX11_feed_85 (by decide) (fun c0 => ?_) (fun c0 => ?_)
    · have e1 : zn p0 p1 p2 p3 p4 (j + 1) = zn p0 p1 p2 p3 p4 j := by show zn p0 p1 p2 p3 p4 j + zo (zk p0 p1 p2 p3 p4 j) = _; rw [← hw, c0]; rfl
      refine lv_iinc (v := nI (j + 1)) (lv' := [(7, .int (nI (j + 1))), (8, .int r), (0, .ref h0), (1, .int p0), (2, .int p1), (3, .int p2), (4, .int p3), (5, .int p4)]) hx hb dX11_feed_109 hl (k := 7) rfl (nI_1 j) (by decide) rfl (fun ls hl => ?_)
      refine lv_goto (tgt := 62) hx hb dX11_feed_112 (by decide) ?_
      exact ih (j + 1) (by omega) H locs ls f (by rw [e1]; exact hP) (by rw [e1]; exact hD) hS (lv_sub hl [2, 3, 4, 5, 6, 7, 0] rfl) kk
    · have e1 : zn p0 p1 p2 p3 p4 (j + 1) = zn p0 p1 p2 p3 p4 j + 1 := by show zn p0 p1 p2 p3 p4 j + zo (zk p0 p1 p2 p3 p4 j) = _; rw [← hw]; rw [show zo r = 1 from if_neg c0]
      refine lv_aload_n hx hb dX11_feed_88 rfl (lv_at hl 1 rfl) ?_
      refine va_get (D := (dC, dI)) (ci := 11) (v := .ref h1) (C := RX11) (T := TX11) (N := 41) hx hb hts iX11 hown hK hP 0 rfl rfl 1 (by decide) (hts _ qw1128) (fun _ h9 => h9) rfl dX11_feed_89 ?_
      refine lv_aload_n hx hb dX11_feed_92 rfl (lv_at hl 1 rfl) ?_
      refine va_get (D := (dC, dI)) (ci := 11) (v := .int (nI (zn p0 p1 p2 p3 p4 j))) (C := RX11) (T := TX11) (N := 41) hx hb hts iX11 hown hK hP 0 rfl rfl 2 (by decide) (hts _ qw1129) (fun _ h9 => h9) rfl dX11_feed_93 ?_
      refine lv_iload hx hb dX11_feed_96 (lv_at hl 0 rfl) ?_
      refine va_iast hx hb hK hP hD hS 1 0 rfl rfl (vp_in_nI (by omega) (by omega)) dX11_feed_98 (fun H locs hP hD hS => ?_)
      generalize upd f (nI (zn p0 p1 p2 p3 p4 j)).toNatClampNeg r = f2 at hP hD
      have hP : va_P (dC, dI) vwCl (zMw cI h0 h1 h2 h3 h4 h5 h6 h7 h8 h9 h10 h11 h12 h13 h14 h15 h16 h17 h18 h19 h20 h21 h22 h23 (zn p0 p1 p2 p3 p4 j) f2) H := hP
      have hD : va_D A (zMw cI h0 h1 h2 h3 h4 h5 h6 h7 h8 h9 h10 h11 h12 h13 h14 h15 h16 h17 h18 h19 h20 h21 h22 h23 (zn p0 p1 p2 p3 p4 j) f2) := hD
      refine lv_aload_n hx hb dX11_feed_99 rfl (lv_at hl 1 rfl) ?_
      refine lv_dup hx hb dX11_feed_100 rfl ?_
      refine va_get (D := (dC, dI)) (ci := 11) (v := .int (nI (zn p0 p1 p2 p3 p4 j))) (C := RX11) (T := TX11) (N := 41) hx hb hts iX11 hown hK hP 0 rfl rfl 2 (by decide) (hts _ qw1129) (fun _ h9 => h9) rfl dX11_feed_101 ?_
      refine lv_iconst (v := 1) hx hb dX11_feed_104 (by decide) ?_
      refine lv_iadd hx hb dX11_feed_105 ?_
      refine lv_topi (fun z ez => ?_)
      obtain rfl : z = nI (zn p0 p1 p2 p3 p4 (j + 1)) := ez.trans (by rw [e1]; exact nI_1 _)
      refine va_put (D := (dC, dI)) (ci := 11) (v := .int (nI (zn p0 p1 p2 p3 p4 (j + 1)))) (ty := .int) (C := RX11) (T := TX11) (N := 41) hx hb hts iX11 tyX11 tyX11_ok nmX11 hown hK hP hD hS 0 rfl rfl 2 (by decide) (hts _ qw1129) (fun _ h9 => h9) rfl (by decide +kernel) rfl rfl (Nat.le_of_ble_eq_true rfl) dX11_feed_106 (fun H locs hP hD hS => ?_)
      have hP : va_P (dC, dI) vwCl (zMw cI h0 h1 h2 h3 h4 h5 h6 h7 h8 h9 h10 h11 h12 h13 h14 h15 h16 h17 h18 h19 h20 h21 h22 h23 (zn p0 p1 p2 p3 p4 (j + 1)) f2) H := hP
      have hD : va_D A (zMw cI h0 h1 h2 h3 h4 h5 h6 h7 h8 h9 h10 h11 h12 h13 h14 h15 h16 h17 h18 h19 h20 h21 h22 h23 (zn p0 p1 p2 p3 p4 (j + 1)) f2) := hD
      refine lv_iinc (v := nI (j + 1)) (lv' := [(7, .int (nI (j + 1))), (8, .int r), (0, .ref h0), (1, .int p0), (2, .int p1), (3, .int p2), (4, .int p3), (5, .int p4)]) hx hb dX11_feed_109 hl (k := 7) rfl (nI_1 j) (by decide) rfl (fun ls hl => ?_)
      refine lv_goto (tgt := 62) hx hb dX11_feed_112 (by decide) ?_
      exact ih (j + 1) (by omega) H locs ls f2 hP hD hS (lv_sub hl [2, 3, 4, 5, 6, 7, 0] rfl) kk
set_option maxHeartbeats 4000000 in
set_option maxRecDepth 100000 in
theorem c_X11_feed (l : Launch) (dC : Nat → ClassId) (dI : Nat → Nat → Nat) (cI cJ : ClassId) (h0 h1 h2 h3 h4 h5 h6 h7 h8 h9 h10 h11 h12 h13 h14 h15 h16 h17 h18 h19 h20 h21 h22 h23 : Nat) (sz : Nat) (p0 p1 p2 p3 p4 : Int32) : Met l yX11_feed (.code yX11_feed cX11_feed 9 (some .int) :: wA) ({ frames := 1, cells := 0, slots := 0, locals := 26 }) (zP (dC, dI) [(cI, .int), (cJ, .long)] [.ref h0, .int p0, .int p1, .int p2, .int p3, .int p4] sz [(h0, .inr (11, [.int 0, .ref h1, .int 0, .int 0, .int 0, .int 0, .ref h2, .ref h3, .ref h4, .ref h5, .ref h6, .ref h7, .ref h8, .int 0, .int 0, .ref h9, .ref h10, .ref h11, .ref h12, .ref h13, .int 0, .int 0, .ref h14, .ref h15, .ref h16, .int 0, .int 0, .ref h17, .ref h18, .int (-1), .int 0, .ref h19, .int 0, .long 0, .ref h20, .int 0, .int 0, .ref h21, .ref h22, .ref h23, .int 0])), (h1, .inl (cI, 240, .inl (fun _ => 0)))]) (va_Qi (fun (r : Int32) (_ : Unit) => r = nI (0 + zc4 p0 + zc4 p1 + zc4 p2 + zc4 p3 + zc4 p4)) (fun (_ : Unit) (_ : State) => True) (va_A [(h0, .inr (11, [.int 0, .ref h1, .int 0, .int 0, .int 0, .int 0, .ref h2, .ref h3, .ref h4, .ref h5, .ref h6, .ref h7, .ref h8, .int 0, .int 0, .ref h9, .ref h10, .ref h11, .ref h12, .ref h13, .int 0, .int 0, .ref h14, .ref h15, .ref h16, .int 0, .int 0, .ref h17, .ref h18, .int (-1), .int 0, .ref h19, .int 0, .long 0, .ref h20, .int 0, .int 0, .ref h21, .ref h22, .ref h23, .int 0])), (h1, .inl (cI, 240, .inl (fun _ => 0)))] sz)) 0 0 (va_A [(h0, .inr (11, [.int 0, .ref h1, .int 0, .int 0, .int 0, .int 0, .ref h2, .ref h3, .ref h4, .ref h5, .ref h6, .ref h7, .ref h8, .int 0, .int 0, .ref h9, .ref h10, .ref h11, .ref h12, .ref h13, .int 0, .int 0, .ref h14, .ref h15, .ref h16, .int 0, .int 0, .ref h17, .ref h18, .int (-1), .int 0, .ref h19, .int 0, .long 0, .ref h20, .int 0, .int 0, .ref h21, .ref h22, .ref h23, .int 0])), (h1, .inl (cI, 240, .inl (fun _ => 0)))] sz) := by
  refine Met.ofW (cc := cX11_feed) (maxL := 9) (ret := (some .int)) (by decide) rfl ?_
  intro p e s m args below meth c s₁ B hml hv
  obtain ⟨rfl, hsz, hP, hK, hT⟩ := hv
  have hx := B.exec
  have hb := B.bytes
  have hr := B.returns
  have hts : ∀ w ∈ wA, w.before _ s = true := fun w h => atoms_spec (ws := .code yX11_feed cX11_feed 9 (some .int) :: wA) B.pre w (List.mem_cons_of_mem _ h)
  have hown : s.vm.findClass RX11 = some m.cls := findClass_of_methodNamed B.named
  have hlocks := B.notSynchronized
  subst hsz
  have hD := hT.self (sz := s.heap.size)
  generalize hAe : va_A [(h0, .inr (11, [.int 0, .ref h1, .int 0, .int 0, .int 0, .int 0, .ref h2, .ref h3, .ref h4, .ref h5, .ref h6, .ref h7, .ref h8, .int 0, .int 0, .ref h9, .ref h10, .ref h11, .ref h12, .ref h13, .int 0, .int 0, .ref h14, .ref h15, .ref h16, .int 0, .int 0, .ref h17, .ref h18, .int (-1), .int 0, .ref h19, .int 0, .long 0, .ref h20, .int 0, .int 0, .ref h21, .ref h22, .ref h23, .int 0])), (h1, .inl (cI, 240, .inl (fun _ => 0)))] s.heap.size = A at hD ⊢
  have hA : ∀ q : Nat, s.heap.size ≤ q → A q := fun q h => by rw [← hAe]; exact Or.inr h
  have hl := lv_entry ([.ref h0, .int p0, .int p1, .int p2, .int p3, .int p4]) (n := 9) (Nat.le_of_ble_eq_true rfl)
  rw [lg_entry_eq]
  generalize (lg_sl ([.ref h0, .int p0, .int p1, .int p2, .int p3, .int p4]) ++ List.replicate (9 - (lg_sl ([.ref h0, .int p0, .int p1, .int p2, .int p3, .int p4])).length) Slot.unset).toArray = ls at hl ⊢
  have hl : lv_has ls 9 [(0, .ref h0), (1, .int p0), (2, .int p1), (3, .int p2), (4, .int p3), (5, .int p4)] := hl
  have hle := zn_le p0 p1 p2 p3 p4 20
  refine zstart (fun H hH => ?_)
  rw [← hH] at hP
  have hS : va_S A s.heap H [] := by rw [hH]; exact va_S.rf
  refine lv_iconst (v := 0) hx hb dX11_feed_0 (by decide) ?_
  refine lv_istore (lv' := [(6, .int 0), (0, .ref h0), (1, .int p0), (2, .int p1), (3, .int p2), (4, .int p3), (5, .int p4)]) hx hb dX11_feed_1 hl (by decide) rfl (fun ls hl => ?_)
  refine lv_iconst (v := 0) hx hb dX11_feed_3 (by decide) ?_
  refine lv_istore (lv' := [(7, .int 0), (6, .int 0), (0, .ref h0), (1, .int p0), (2, .int p1), (3, .int p2), (4, .int p3), (5, .int p4)]) hx hb dX11_feed_4 hl (by decide) rfl (fun ls hl => ?_)
  have hP : va_P (dC, dI) vwCl (zMw cI h0 h1 h2 h3 h4 h5 h6 h7 h8 h9 h10 h11 h12 h13 h14 h15 h16 h17 h18 h19 h20 h21 h22 h23 0 (fun _ => 0)) H := hP
  have hD : va_D A (zMw cI h0 h1 h2 h3 h4 h5 h6 h7 h8 h9 h10 h11 h12 h13 h14 h15 h16 h17 h18 h19 h20 h21 h22 h23 0 (fun _ => 0)) := hD
  have hl2 : lv_has ls 9 [(0, .ref h0), (1, .int p0), (2, .int p1), (3, .int p2), (4, .int p3), (5, .int p4), (6, .int (nI (zn p0 p1 p2 p3 p4 0))), (7, .int (nI 0))] := lv_sub hl [2, 3, 4, 5, 6, 7, 1, 0] rfl
  refine mfeed_1 (l := l) hx hb hml hown hts hK hA (Nat.le_of_ble_eq_true rfl) (Nat.le_of_ble_eq_true rfl) (Nat.le_of_ble_eq_true rfl) (Nat.le_of_ble_eq_true rfl) 20 0 rfl H [] ls (fun _ => 0) 0 hP hS hl2 (fun H locs ls hP hS hl => ?_)
  refine lv_aload_n hx hb dX11_feed_44 rfl (lv_at hl 0 rfl) ?_
  refine va_get (D := (dC, dI)) (ci := 11) (v := .int (nI 0)) (C := RX11) (T := TX11) (N := 41) hx hb hts iX11 hown hK hP 0 rfl rfl 2 (by decide) (hts _ qw1129) (fun _ h9 => h9) rfl dX11_feed_45 ?_
  refine lv_iload hx hb dX11_feed_48 (lv_at hl 6 rfl) ?_
  refine lv_iadd hx hb dX11_feed_50 ?_
  refine lv_topi (fun z ez => ?_)
  obtain rfl : z = nI (0 + zn p0 p1 p2 p3 p4 20) := ez.trans (nI_add 0 _)
  refine lv_sipush (v := 240) hx hb dX11_feed_51 (by decide) ?_
  refine lv_icmp_le (tgt := 59) hx hb dX11_feed_54 (by decide) (fun _ => ?_) (fun q => absurd ((nI_leI (a := 0 + zn p0 p1 p2 p3 p4 20) (b := 240) (by omega) (by omega)).mpr (by omega)) q)
  refine lv_iconst (v := 0) hx hb dX11_feed_59 (by decide) ?_
  refine lv_istore (lv' := [(7, .int 0), (0, .ref h0), (1, .int p0), (2, .int p1), (3, .int p2), (4, .int p3), (5, .int p4), (6, .int (nI (zn p0 p1 p2 p3 p4 20)))]) hx hb dX11_feed_60 hl (by decide) rfl (fun ls hl => ?_)
  refine mfeed_2 (l := l) hx hb hml hown hts hK hA (Nat.le_of_ble_eq_true rfl) (Nat.le_of_ble_eq_true rfl) (Nat.le_of_ble_eq_true rfl) (Nat.le_of_ble_eq_true rfl) 20 0 rfl H locs ls (fun _ => 0) hP hD hS (lv_sub hl [1, 2, 3, 4, 5, 6, 0] rfl) (fun H locs ls f hP hD hS hl => ?_)
  refine lv_aload_n hx hb dX11_feed_115 rfl (lv_at hl 0 rfl) ?_
  refine va_get (D := (dC, dI)) (ci := 11) (v := .int (nI (zn p0 p1 p2 p3 p4 20))) (C := RX11) (T := TX11) (N := 41) hx hb hts iX11 hown hK hP 0 rfl rfl 2 (by decide) (hts _ qw1129) (fun _ h9 => h9) rfl dX11_feed_116 ?_
  exact W.iret (v := nI (zn p0 p1 p2 p3 p4 20)) hx hb hr (fun t ht hW => ⟨⟨nI (zn p0 p1 p2 p3 p4 20), (), rfl, by rw [zn_all], trivial⟩, hS.F ht⟩) hS.2.2 dX11_feed_119
