set_option maxHeartbeats 4000000 in
set_option maxRecDepth 100000 in
theorem g_X11_shot_0 (l : Launch) (dC : Nat → ClassId) (dI : Nat → Nat → Nat) (cI cJ : ClassId) (h0 : Nat) (p0 : Int32) (th : Int32) (tB : Nat) (tsz : Int32) (tat : Int32) (wr : Int32) (dp : Int32) (rC : Nat) (rV : Nat) (rD : Nat) (rK : Nat) (rT : Nat) (rS : Nat) (rU : Nat) (lw : Int32) (tx : Int32) (rL : Nat) (rX : Nat) (qR : Nat) (qB : Nat) (qP : Nat) (qnb : Int32) (qnp : Int32) (aR : Nat) (aB : Nat) (aP : Nat) (nb : Int32) (np : Int32) (aN : Nat) (rf : Nat) (ho : Int32) (br : Int32) (aK : Nat) (ac : Int32) (dw : Int64) (aE : Nat) (sr : Int32) (sf : Int32) (aA : Nat) (aH : Nat) (aI : Nat) (hi : Int32) (fN : Nat → Int32) (sz : Nat) (n_ac : 0 ≤ ac.toInt ∧ ac.toInt ≤ 40) (n_hi : 0 ≤ hi.toInt ∧ hi.toInt ≤ 1) (n_ho : (-1) ≤ ho.toInt ∧ ho.toInt ≤ 3) (n_lw : 0 ≤ lw.toInt ∧ lw.toInt ≤ 4) (n_nb : 0 ≤ nb.toInt ∧ nb.toInt ≤ 6) (n_np : 0 ≤ np.toInt ∧ np.toInt ≤ 5) (n_p0 : 0 ≤ p0.toInt ∧ p0.toInt ≤ 19) (n_qnb : 0 ≤ qnb.toInt ∧ qnb.toInt ≤ 6) (n_qnp : 0 ≤ qnp.toInt ∧ qnp.toInt ≤ 5) (n_tat : 0 ≤ tat.toInt ∧ tat.toInt ≤ 260) (n_tsz : 0 ≤ tsz.toInt ∧ tsz.toInt ≤ 240) (n_wr : (-1) ≤ wr.toInt ∧ wr.toInt ≤ 260) (hm : p0.toInt < (fN 16).toInt) (ci_fN_zNw_np : zNw np fN)  : Met l yX11_shot (.code yX11_shot cX11_shot 3 (some .int) :: wA) ({ frames := 0, cells := 0, slots := 0, locals := 0 }) (zP (dC, dI) [(cI, .int), (cJ, .long)] [.ref h0, .int p0, .int 0] sz [(h0, .inr (11, [.int th, .ref tB, .int tsz, .int tat, .int wr, .int dp, .ref rC, .ref rV, .ref rD, .ref rK, .ref rT, .ref rS, .ref rU, .int lw, .int tx, .ref rL, .ref rX, .ref qR, .ref qB, .ref qP, .int qnb, .int qnp, .ref aR, .ref aB, .ref aP, .int nb, .int np, .ref aN, .ref rf, .int ho, .int br, .ref aK, .int ac, .long dw, .ref aE, .int sr, .int sf, .ref aA, .ref aH, .ref aI, .int hi])), (aN, .inl (cI, 97, .inl fN))]) (va_Qi (fun (r : Int32) (u : Unit) => (0 ≤ r.toInt) ∧ (r.toInt ≤ 5) ∧ (r.toInt = (fN (17 + 4 * p0.toInt.toNat)).toInt) ∧ (r = fN (17 + 4 * p0.toInt.toNat))) (fun (_ : Unit) (_ : State) => True) (va_A [] sz)) 0 0 (va_A [] sz) := by
  refine Met.ofW (cc := cX11_shot) (maxL := 3) (ret := (some .int)) (by decide) rfl ?_
  intro p e s m args below meth c s₁ B hml hv
  obtain ⟨hargs, hsz, hP, hK, hT⟩ := hv
  have hx := B.exec
  have hb := B.bytes
  have hr := B.returns
  have hts : ∀ w ∈ wA, w.before args s = true := fun w h => atoms_spec (ws := .code yX11_shot cX11_shot 3 (some .int) :: wA) B.pre w (List.mem_cons_of_mem _ h)
  have hown : s.vm.findClass RX11 = some m.cls := findClass_of_methodNamed B.named
  have hlocks := B.notSynchronized
  subst hsz
  have hD : va_D (va_A [] s.heap.size) [] := zD0
  generalize hAe : va_A [] s.heap.size = A at hD ⊢
  have hA : ∀ q : Nat, s.heap.size ≤ q → A q := fun q h => by rw [← hAe]; exact Or.inr h
  have hl := lv_entry ([.ref h0, .int p0, .int 0]) (n := 3) (Nat.le_of_ble_eq_true rfl)
  rw [show entryFrame m args 3 = entryFrame m ([.ref h0, .int p0, .int 0] : List Value).toArray 3 by rw [hargs], lg_entry_eq]
  generalize (lg_sl ([.ref h0, .int p0, .int 0]) ++ List.replicate (3 - (lg_sl ([.ref h0, .int p0, .int 0])).length) Slot.unset).toArray = ls at hl ⊢
  have hl : lv_has ls 3 [(0, .ref h0), (1, .int p0), (2, .int 0)] := hl
  refine zstart (fun H hH => ?_)
  rw [← hH] at hP
  have hS : va_S A s.heap H [] := by rw [hH]; exact va_S.rf
  generalize ([] : List Loc) = locs at hS ⊢
  refine zgen (fun R Q hR hQ => ?_)
  refine lv_aload_n hx hb dX11_shot_0 rfl (lv_at hl 0 rfl) ?_
  refine va_get (D := (dC, dI)) (ci := 11) (v := .ref aN) (C := RX11) (T := TX11) (N := 41) hx hb hts iX11 hown hK hP 0 rfl rfl 27 (by decide) (hts _ qw1154) (fun _ h9 => h9) rfl dX11_shot_1 ?_
  refine lv_bipush (v := 17) hx hb dX11_shot_4 (by decide) ?_
  refine lv_iconst (v := 4) hx hb dX11_shot_6 (by decide) ?_
  refine lv_iload_n hx hb dX11_shot_7 rfl (lv_at hl 1 rfl) ?_
  refine lv_imul hx hb dX11_shot_8 ?_
  refine lv_topi (fun v8 e8 => ?_)
  have i8 : v8.toInt = 4 * p0.toInt := zmul e8 (by decide) rfl (by omega) (by omega)
  refine lv_iadd hx hb dX11_shot_9 ?_
  refine lv_topi (fun v9 e9 => ?_)
  have i9 : v9.toInt = 17 + v8.toInt := zadd e9 (by decide) rfl (by omega) (by omega)
  refine lv_iload_n hx hb dX11_shot_10 rfl (lv_at hl 2 rfl) ?_
  refine lv_iadd hx hb dX11_shot_11 ?_
  refine lv_topi (fun v11 e11 => ?_)
  have i11 : v11.toInt = v9.toInt + 0 := zadd e11 rfl (by decide) (by omega) (by omega)
  refine va_iald hx hb hK hP 1 0 rfl rfl (vp_in_iff.mpr ⟨by omega, by omega⟩) dX11_shot_12 ?_
  refine lv_topi (fun v12 e12 => ?_)
  have i12 : v12.toInt = (fN (17 + 4 * p0.toInt.toNat)).toInt ∧ 0 ≤ v12.toInt ∧ v12.toInt ≤ 5 := ⟨zIx e12 (by omega), zNw_p0 ci_fN_zNw_np e12 (k := p0.toInt) (by omega) (by omega) hm⟩
  rw [hQ]
  exact W.iret (v := v12) hx hb hr (fun t ht hW => ⟨⟨v12, (), rfl, ⟨by (try dsimp only); omega, by (try dsimp only); omega, by (try dsimp only); omega, by (try dsimp only); exact zIxN e12 (by omega)⟩, trivial⟩, hS.F ht⟩) hS.2.2 dX11_shot_13
set_option maxHeartbeats 4000000 in
set_option maxRecDepth 100000 in
theorem g_X11_shot_1 (l : Launch) (dC : Nat → ClassId) (dI : Nat → Nat → Nat) (cI cJ : ClassId) (h0 : Nat) (p0 : Int32) (th : Int32) (tB : Nat) (tsz : Int32) (tat : Int32) (wr : Int32) (dp : Int32) (rC : Nat) (rV : Nat) (rD : Nat) (rK : Nat) (rT : Nat) (rS : Nat) (rU : Nat) (lw : Int32) (tx : Int32) (rL : Nat) (rX : Nat) (qR : Nat) (qB : Nat) (qP : Nat) (qnb : Int32) (qnp : Int32) (aR : Nat) (aB : Nat) (aP : Nat) (nb : Int32) (np : Int32) (aN : Nat) (rf : Nat) (ho : Int32) (br : Int32) (aK : Nat) (ac : Int32) (dw : Int64) (aE : Nat) (sr : Int32) (sf : Int32) (aA : Nat) (aH : Nat) (aI : Nat) (hi : Int32) (fN : Nat → Int32) (sz : Nat) (n_ac : 0 ≤ ac.toInt ∧ ac.toInt ≤ 40) (n_hi : 0 ≤ hi.toInt ∧ hi.toInt ≤ 1) (n_ho : (-1) ≤ ho.toInt ∧ ho.toInt ≤ 3) (n_lw : 0 ≤ lw.toInt ∧ lw.toInt ≤ 4) (n_nb : 0 ≤ nb.toInt ∧ nb.toInt ≤ 6) (n_np : 0 ≤ np.toInt ∧ np.toInt ≤ 5) (n_p0 : 0 ≤ p0.toInt ∧ p0.toInt ≤ 19) (n_qnb : 0 ≤ qnb.toInt ∧ qnb.toInt ≤ 6) (n_qnp : 0 ≤ qnp.toInt ∧ qnp.toInt ≤ 5) (n_tat : 0 ≤ tat.toInt ∧ tat.toInt ≤ 260) (n_tsz : 0 ≤ tsz.toInt ∧ tsz.toInt ≤ 240) (n_wr : (-1) ≤ wr.toInt ∧ wr.toInt ≤ 260) (hm : p0.toInt < (fN 16).toInt) (ci_fN_zNw_np : zNw np fN)  : Met l yX11_shot (.code yX11_shot cX11_shot 3 (some .int) :: wA) ({ frames := 0, cells := 0, slots := 0, locals := 0 }) (zP (dC, dI) [(cI, .int), (cJ, .long)] [.ref h0, .int p0, .int 1] sz [(h0, .inr (11, [.int th, .ref tB, .int tsz, .int tat, .int wr, .int dp, .ref rC, .ref rV, .ref rD, .ref rK, .ref rT, .ref rS, .ref rU, .int lw, .int tx, .ref rL, .ref rX, .ref qR, .ref qB, .ref qP, .int qnb, .int qnp, .ref aR, .ref aB, .ref aP, .int nb, .int np, .ref aN, .ref rf, .int ho, .int br, .ref aK, .int ac, .long dw, .ref aE, .int sr, .int sf, .ref aA, .ref aH, .ref aI, .int hi])), (aN, .inl (cI, 97, .inl fN))]) (va_Qi (fun (r : Int32) (u : Unit) => (0 ≤ r.toInt) ∧ (r.toInt ≤ 4) ∧ (r.toInt < np.toInt) ∧ (r = fN (17 + (4 * p0.toInt.toNat + 1)))) (fun (_ : Unit) (_ : State) => True) (va_A [] sz)) 0 0 (va_A [] sz) := by
  refine Met.ofW (cc := cX11_shot) (maxL := 3) (ret := (some .int)) (by decide) rfl ?_
  intro p e s m args below meth c s₁ B hml hv
  obtain ⟨hargs, hsz, hP, hK, hT⟩ := hv
  have hx := B.exec
  have hb := B.bytes
  have hr := B.returns
  have hts : ∀ w ∈ wA, w.before args s = true := fun w h => atoms_spec (ws := .code yX11_shot cX11_shot 3 (some .int) :: wA) B.pre w (List.mem_cons_of_mem _ h)
  have hown : s.vm.findClass RX11 = some m.cls := findClass_of_methodNamed B.named
  have hlocks := B.notSynchronized
  subst hsz
  have hD : va_D (va_A [] s.heap.size) [] := zD0
  generalize hAe : va_A [] s.heap.size = A at hD ⊢
  have hA : ∀ q : Nat, s.heap.size ≤ q → A q := fun q h => by rw [← hAe]; exact Or.inr h
  have hl := lv_entry ([.ref h0, .int p0, .int 1]) (n := 3) (Nat.le_of_ble_eq_true rfl)
  rw [show entryFrame m args 3 = entryFrame m ([.ref h0, .int p0, .int 1] : List Value).toArray 3 by rw [hargs], lg_entry_eq]
  generalize (lg_sl ([.ref h0, .int p0, .int 1]) ++ List.replicate (3 - (lg_sl ([.ref h0, .int p0, .int 1])).length) Slot.unset).toArray = ls at hl ⊢
  have hl : lv_has ls 3 [(0, .ref h0), (1, .int p0), (2, .int 1)] := hl
  refine zstart (fun H hH => ?_)
  rw [← hH] at hP
  have hS : va_S A s.heap H [] := by rw [hH]; exact va_S.rf
  generalize ([] : List Loc) = locs at hS ⊢
  refine zgen (fun R Q hR hQ => ?_)
  refine lv_aload_n hx hb dX11_shot_0 rfl (lv_at hl 0 rfl) ?_
  refine va_get (D := (dC, dI)) (ci := 11) (v := .ref aN) (C := RX11) (T := TX11) (N := 41) hx hb hts iX11 hown hK hP 0 rfl rfl 27 (by decide) (hts _ qw1154) (fun _ h9 => h9) rfl dX11_shot_1 ?_
  refine lv_bipush (v := 17) hx hb dX11_shot_4 (by decide) ?_
  refine lv_iconst (v := 4) hx hb dX11_shot_6 (by decide) ?_
  refine lv_iload_n hx hb dX11_shot_7 rfl (lv_at hl 1 rfl) ?_
  refine lv_imul hx hb dX11_shot_8 ?_
  refine lv_topi (fun v8 e8 => ?_)
  have i8 : v8.toInt = 4 * p0.toInt := zmul e8 (by decide) rfl (by omega) (by omega)
  refine lv_iadd hx hb dX11_shot_9 ?_
  refine lv_topi (fun v9 e9 => ?_)
  have i9 : v9.toInt = 17 + v8.toInt := zadd e9 (by decide) rfl (by omega) (by omega)
  refine lv_iload_n hx hb dX11_shot_10 rfl (lv_at hl 2 rfl) ?_
  refine lv_iadd hx hb dX11_shot_11 ?_
  refine lv_topi (fun v11 e11 => ?_)
  have i11 : v11.toInt = v9.toInt + 1 := zadd e11 rfl (by decide) (by omega) (by omega)
  refine va_iald hx hb hK hP 1 0 rfl rfl (vp_in_iff.mpr ⟨by omega, by omega⟩) dX11_shot_12 ?_
  refine lv_topi (fun v12 e12 => ?_)
  have i12 : (0 ≤ v12.toInt ∧ v12.toInt ≤ 4) ∧ v12.toInt < np.toInt := zNw_p1 ci_fN_zNw_np e12 (k := p0.toInt) (by omega) (by omega) hm (by omega)
  rw [hQ]
  exact W.iret (v := v12) hx hb hr (fun t ht hW => ⟨⟨v12, (), rfl, ⟨by (try dsimp only); omega, by (try dsimp only); omega, by (try dsimp only); omega, by (try dsimp only); exact zIxN e12 (by omega)⟩, trivial⟩, hS.F ht⟩) hS.2.2 dX11_shot_13
set_option maxHeartbeats 4000000 in
set_option maxRecDepth 100000 in
theorem g_X11_shot_2 (l : Launch) (dC : Nat → ClassId) (dI : Nat → Nat → Nat) (cI cJ : ClassId) (h0 : Nat) (p0 : Int32) (th : Int32) (tB : Nat) (tsz : Int32) (tat : Int32) (wr : Int32) (dp : Int32) (rC : Nat) (rV : Nat) (rD : Nat) (rK : Nat) (rT : Nat) (rS : Nat) (rU : Nat) (lw : Int32) (tx : Int32) (rL : Nat) (rX : Nat) (qR : Nat) (qB : Nat) (qP : Nat) (qnb : Int32) (qnp : Int32) (aR : Nat) (aB : Nat) (aP : Nat) (nb : Int32) (np : Int32) (aN : Nat) (rf : Nat) (ho : Int32) (br : Int32) (aK : Nat) (ac : Int32) (dw : Int64) (aE : Nat) (sr : Int32) (sf : Int32) (aA : Nat) (aH : Nat) (aI : Nat) (hi : Int32) (fN : Nat → Int32) (sz : Nat) (n_ac : 0 ≤ ac.toInt ∧ ac.toInt ≤ 40) (n_hi : 0 ≤ hi.toInt ∧ hi.toInt ≤ 1) (n_ho : (-1) ≤ ho.toInt ∧ ho.toInt ≤ 3) (n_lw : 0 ≤ lw.toInt ∧ lw.toInt ≤ 4) (n_nb : 0 ≤ nb.toInt ∧ nb.toInt ≤ 6) (n_np : 0 ≤ np.toInt ∧ np.toInt ≤ 5) (n_p0 : 0 ≤ p0.toInt ∧ p0.toInt ≤ 19) (n_qnb : 0 ≤ qnb.toInt ∧ qnb.toInt ≤ 6) (n_qnp : 0 ≤ qnp.toInt ∧ qnp.toInt ≤ 5) (n_tat : 0 ≤ tat.toInt ∧ tat.toInt ≤ 260) (n_tsz : 0 ≤ tsz.toInt ∧ tsz.toInt ≤ 240) (n_wr : (-1) ≤ wr.toInt ∧ wr.toInt ≤ 260) (hm : p0.toInt < (fN 16).toInt) (ci_fN_zNw_np : zNw np fN)  : Met l yX11_shot (.code yX11_shot cX11_shot 3 (some .int) :: wA) ({ frames := 0, cells := 0, slots := 0, locals := 0 }) (zP (dC, dI) [(cI, .int), (cJ, .long)] [.ref h0, .int p0, .int 2] sz [(h0, .inr (11, [.int th, .ref tB, .int tsz, .int tat, .int wr, .int dp, .ref rC, .ref rV, .ref rD, .ref rK, .ref rT, .ref rS, .ref rU, .int lw, .int tx, .ref rL, .ref rX, .ref qR, .ref qB, .ref qP, .int qnb, .int qnp, .ref aR, .ref aB, .ref aP, .int nb, .int np, .ref aN, .ref rf, .int ho, .int br, .ref aK, .int ac, .long dw, .ref aE, .int sr, .int sf, .ref aA, .ref aH, .ref aI, .int hi])), (aN, .inl (cI, 97, .inl fN))]) (va_Qi (fun (r : Int32) (u : Unit) => ((-1) ≤ r.toInt) ∧ (r.toInt ≤ 9) ∧ (r = fN (17 + (4 * p0.toInt.toNat + 2)))) (fun (_ : Unit) (_ : State) => True) (va_A [] sz)) 0 0 (va_A [] sz) := by
  refine Met.ofW (cc := cX11_shot) (maxL := 3) (ret := (some .int)) (by decide) rfl ?_
  intro p e s m args below meth c s₁ B hml hv
  obtain ⟨hargs, hsz, hP, hK, hT⟩ := hv
  have hx := B.exec
  have hb := B.bytes
  have hr := B.returns
  have hts : ∀ w ∈ wA, w.before args s = true := fun w h => atoms_spec (ws := .code yX11_shot cX11_shot 3 (some .int) :: wA) B.pre w (List.mem_cons_of_mem _ h)
  have hown : s.vm.findClass RX11 = some m.cls := findClass_of_methodNamed B.named
  have hlocks := B.notSynchronized
  subst hsz
  have hD : va_D (va_A [] s.heap.size) [] := zD0
  generalize hAe : va_A [] s.heap.size = A at hD ⊢
  have hA : ∀ q : Nat, s.heap.size ≤ q → A q := fun q h => by rw [← hAe]; exact Or.inr h
  have hl := lv_entry ([.ref h0, .int p0, .int 2]) (n := 3) (Nat.le_of_ble_eq_true rfl)
  rw [show entryFrame m args 3 = entryFrame m ([.ref h0, .int p0, .int 2] : List Value).toArray 3 by rw [hargs], lg_entry_eq]
  generalize (lg_sl ([.ref h0, .int p0, .int 2]) ++ List.replicate (3 - (lg_sl ([.ref h0, .int p0, .int 2])).length) Slot.unset).toArray = ls at hl ⊢
  have hl : lv_has ls 3 [(0, .ref h0), (1, .int p0), (2, .int 2)] := hl
  refine zstart (fun H hH => ?_)
  rw [← hH] at hP
  have hS : va_S A s.heap H [] := by rw [hH]; exact va_S.rf
  generalize ([] : List Loc) = locs at hS ⊢
  refine zgen (fun R Q hR hQ => ?_)
  refine lv_aload_n hx hb dX11_shot_0 rfl (lv_at hl 0 rfl) ?_
  refine va_get (D := (dC, dI)) (ci := 11) (v := .ref aN) (C := RX11) (T := TX11) (N := 41) hx hb hts iX11 hown hK hP 0 rfl rfl 27 (by decide) (hts _ qw1154) (fun _ h9 => h9) rfl dX11_shot_1 ?_
  refine lv_bipush (v := 17) hx hb dX11_shot_4 (by decide) ?_
  refine lv_iconst (v := 4) hx hb dX11_shot_6 (by decide) ?_
  refine lv_iload_n hx hb dX11_shot_7 rfl (lv_at hl 1 rfl) ?_
  refine lv_imul hx hb dX11_shot_8 ?_
  refine lv_topi (fun v8 e8 => ?_)
  have i8 : v8.toInt = 4 * p0.toInt := zmul e8 (by decide) rfl (by omega) (by omega)
  refine lv_iadd hx hb dX11_shot_9 ?_
  refine lv_topi (fun v9 e9 => ?_)
  have i9 : v9.toInt = 17 + v8.toInt := zadd e9 (by decide) rfl (by omega) (by omega)
  refine lv_iload_n hx hb dX11_shot_10 rfl (lv_at hl 2 rfl) ?_
  refine lv_iadd hx hb dX11_shot_11 ?_
  refine lv_topi (fun v11 e11 => ?_)
  have i11 : v11.toInt = v9.toInt + 2 := zadd e11 rfl (by decide) (by omega) (by omega)
  refine va_iald hx hb hK hP 1 0 rfl rfl (vp_in_iff.mpr ⟨by omega, by omega⟩) dX11_shot_12 ?_
  refine lv_topi (fun v12 e12 => ?_)
  have i12 : -1 ≤ v12.toInt ∧ v12.toInt ≤ 9 := zNw_p2 ci_fN_zNw_np e12 (k := p0.toInt) (by omega) (by omega) hm
  rw [hQ]
  exact W.iret (v := v12) hx hb hr (fun t ht hW => ⟨⟨v12, (), rfl, ⟨by (try dsimp only); omega, by (try dsimp only); omega, by (try dsimp only); exact zIxN e12 (by omega)⟩, trivial⟩, hS.F ht⟩) hS.2.2 dX11_shot_13
set_option maxHeartbeats 4000000 in
set_option maxRecDepth 100000 in
theorem g_X11_isBride (l : Launch) (dC : Nat → ClassId) (dI : Nat → Nat → Nat) (cI cJ : ClassId) (h0 : Nat) (p0 : Int32) (th : Int32) (tB : Nat) (tsz : Int32) (tat : Int32) (wr : Int32) (dp : Int32) (rC : Nat) (rV : Nat) (rD : Nat) (rK : Nat) (rT : Nat) (rS : Nat) (rU : Nat) (lw : Int32) (tx : Int32) (rL : Nat) (rX : Nat) (qR : Nat) (qB : Nat) (qP : Nat) (qnb : Int32) (qnp : Int32) (aR : Nat) (aB : Nat) (aP : Nat) (nb : Int32) (np : Int32) (aN : Nat) (rf : Nat) (ho : Int32) (br : Int32) (aK : Nat) (ac : Int32) (dw : Int64) (aE : Nat) (sr : Int32) (sf : Int32) (aA : Nat) (aH : Nat) (aI : Nat) (hi : Int32) (sz : Nat) (n_ac : 0 ≤ ac.toInt ∧ ac.toInt ≤ 40) (n_hi : 0 ≤ hi.toInt ∧ hi.toInt ≤ 1) (n_ho : (-1) ≤ ho.toInt ∧ ho.toInt ≤ 3) (n_lw : 0 ≤ lw.toInt ∧ lw.toInt ≤ 4) (n_nb : 0 ≤ nb.toInt ∧ nb.toInt ≤ 6) (n_np : 0 ≤ np.toInt ∧ np.toInt ≤ 5) (n_qnb : 0 ≤ qnb.toInt ∧ qnb.toInt ≤ 6) (n_qnp : 0 ≤ qnp.toInt ∧ qnp.toInt ≤ 5) (n_tat : 0 ≤ tat.toInt ∧ tat.toInt ≤ 260) (n_tsz : 0 ≤ tsz.toInt ∧ tsz.toInt ≤ 240) (n_wr : (-1) ≤ wr.toInt ∧ wr.toInt ≤ 260)    : Met l yX11_isBride (.code yX11_isBride cX11_isBride 2 (some .boolean) :: wA) ({ frames := 1, cells := 0, slots := 0, locals := 22 }) (zP (dC, dI) [(cI, .int), (cJ, .long)] [.ref h0, .int p0] sz [(h0, .inr (11, [.int th, .ref tB, .int tsz, .int tat, .int wr, .int dp, .ref rC, .ref rV, .ref rD, .ref rK, .ref rT, .ref rS, .ref rU, .int lw, .int tx, .ref rL, .ref rX, .ref qR, .ref qB, .ref qP, .int qnb, .int qnp, .ref aR, .ref aB, .ref aP, .int nb, .int np, .ref aN, .ref rf, .int ho, .int br, .ref aK, .int ac, .long dw, .ref aE, .int sr, .int sf, .ref aA, .ref aH, .ref aI, .int hi]))]) (va_Qi (fun (r : Int32) (u : Unit) => (0 ≤ r.toInt) ∧ (r.toInt ≤ 1) ∧ (¬ r.toInt = 0 → (0 ≤ p0.toInt ∧ p0.toInt < nb.toInt)) ∧ (r.toInt = 0 → ¬ (0 ≤ p0.toInt ∧ p0.toInt < nb.toInt))) (fun (_ : Unit) (_ : State) => True) (va_A [] sz)) 0 0 (va_A [] sz) := by
  refine Met.ofW (cc := cX11_isBride) (maxL := 2) (ret := (some .boolean)) (by decide) rfl ?_
  intro p e s m args below meth c s₁ B hml hv
  obtain ⟨hargs, hsz, hP, hK, hT⟩ := hv
  have hx := B.exec
  have hb := B.bytes
  have hr := B.returns
  have hts : ∀ w ∈ wA, w.before args s = true := fun w h => atoms_spec (ws := .code yX11_isBride cX11_isBride 2 (some .boolean) :: wA) B.pre w (List.mem_cons_of_mem _ h)
  have hown : s.vm.findClass RX11 = some m.cls := findClass_of_methodNamed B.named
  have hlocks := B.notSynchronized
  subst hsz
  have hD : va_D (va_A [] s.heap.size) [] := zD0
  generalize hAe : va_A [] s.heap.size = A at hD ⊢
  have hA : ∀ q : Nat, s.heap.size ≤ q → A q := fun q h => by rw [← hAe]; exact Or.inr h
  have hl := lv_entry ([.ref h0, .int p0]) (n := 2) (Nat.le_of_ble_eq_true rfl)
  rw [show entryFrame m args 2 = entryFrame m ([.ref h0, .int p0] : List Value).toArray 2 by rw [hargs], lg_entry_eq]
  generalize (lg_sl ([.ref h0, .int p0]) ++ List.replicate (2 - (lg_sl ([.ref h0, .int p0])).length) Slot.unset).toArray = ls at hl ⊢
  have hl : lv_has ls 2 [(0, .ref h0), (1, .int p0)] := hl
  refine zstart (fun H hH => ?_)
  rw [← hH] at hP
  have hS : va_S A s.heap H [] := by rw [hH]; exact va_S.rf
  generalize ([] : List Loc) = locs at hS ⊢
  refine zgen (fun R Q hR hQ => ?_)
  refine lv_iload_n hx hb dX11_isBride_0 rfl (lv_at hl 1 rfl) ?_
  refine lv_iconst (v := 0) hx hb dX11_isBride_1 (by decide) ?_
  refine lv_aload_n hx hb dX11_isBride_2 rfl (lv_at hl 0 rfl) ?_
  refine va_get (D := (dC, dI)) (ci := 11) (v := .int nb) (C := RX11) (T := TX11) (N := 41) hx hb hts iX11 hown hK hP 0 rfl rfl 25 (by decide) (hts _ qw1152) (fun _ h9 => h9) rfl dX11_isBride_3 ?_
  refine lv_iconst (v := 1) hx hb dX11_isBride_6 (by decide) ?_
  refine lv_isub hx hb dX11_isBride_7 ?_
  refine lv_topi (fun v7 e7 => ?_)
  have i7 : v7.toInt = nb.toInt - 1 := zsub e7 rfl (by decide) (by omega) (by omega)
  have hPc : va_P (dC, dI) vwCl [] H := zP0
  have hDc : va_D (fun _ => True) [] := zD0
  have hFc := zfr hS hA
  refine va_calli (va_runS (As := [.int p0, .int 0, .int v7]) (rest := []) ⟨hx, hb, hml, hown, hts⟩ (g_X11_in l dC dI cI cJ p0 0 v7 H.size) (cwS 3 hts (zgS qw1305 qw1306 qw108 qw1307) rfl rfl rfl hd_X11_in ⟨by rw [hR]; exact Nat.le_of_ble_eq_true rfl, by rw [hR]; exact Nat.le_of_ble_eq_true rfl⟩) (zPS hPc hK hDc) rfl rfl hl.1 rfl (lv_room (Nat.le_of_ble_eq_true rfl)) dX11_isBride_8 ⟨Nat.zero_le _, Nat.zero_le _⟩) hS (fun q _ h => hFc q h) hFc (fun v8 u8 t H locs ht hvm hw hB hz1 hk1 hS => ?_)
  have hP := zkeep hP hk1
  have zn8_0 : (0 : Int32).toInt = 0 := by decide
  obtain ⟨f8_0, f8_1, f8_2, f8_3⟩ : (0 ≤ v8.toInt) ∧ (v8.toInt ≤ 1) ∧ (¬ v8.toInt = 0 → ((0 : Int32).toInt ≤ p0.toInt ∧ p0.toInt ≤ v7.toInt)) ∧ (v8.toInt = 0 → (p0.toInt < (0 : Int32).toInt ∨ v7.toInt < p0.toInt)) := hw
  rw [hQ]
  exact W.zret (v := v8) (ty := .boolean) hx hb hr (znb (by omega) (by omega)) (fun t ht hW => ⟨⟨v8, (), rfl, ⟨by (try dsimp only); omega, by (try dsimp only); omega, by (try dsimp only); omega, by (try dsimp only); omega⟩, trivial⟩, hS.F ht⟩) hS.2.2 dX11_isBride_11
set_option maxHeartbeats 4000000 in
set_option maxRecDepth 100000 in
theorem g_X11_isPainter (l : Launch) (dC : Nat → ClassId) (dI : Nat → Nat → Nat) (cI cJ : ClassId) (h0 : Nat) (p0 : Int32) (th : Int32) (tB : Nat) (tsz : Int32) (tat : Int32) (wr : Int32) (dp : Int32) (rC : Nat) (rV : Nat) (rD : Nat) (rK : Nat) (rT : Nat) (rS : Nat) (rU : Nat) (lw : Int32) (tx : Int32) (rL : Nat) (rX : Nat) (qR : Nat) (qB : Nat) (qP : Nat) (qnb : Int32) (qnp : Int32) (aR : Nat) (aB : Nat) (aP : Nat) (nb : Int32) (np : Int32) (aN : Nat) (rf : Nat) (ho : Int32) (br : Int32) (aK : Nat) (ac : Int32) (dw : Int64) (aE : Nat) (sr : Int32) (sf : Int32) (aA : Nat) (aH : Nat) (aI : Nat) (hi : Int32) (sz : Nat) (n_ac : 0 ≤ ac.toInt ∧ ac.toInt ≤ 40) (n_hi : 0 ≤ hi.toInt ∧ hi.toInt ≤ 1) (n_ho : (-1) ≤ ho.toInt ∧ ho.toInt ≤ 3) (n_lw : 0 ≤ lw.toInt ∧ lw.toInt ≤ 4) (n_nb : 0 ≤ nb.toInt ∧ nb.toInt ≤ 6) (n_np : 0 ≤ np.toInt ∧ np.toInt ≤ 5) (n_qnb : 0 ≤ qnb.toInt ∧ qnb.toInt ≤ 6) (n_qnp : 0 ≤ qnp.toInt ∧ qnp.toInt ≤ 5) (n_tat : 0 ≤ tat.toInt ∧ tat.toInt ≤ 260) (n_tsz : 0 ≤ tsz.toInt ∧ tsz.toInt ≤ 240) (n_wr : (-1) ≤ wr.toInt ∧ wr.toInt ≤ 260)    : Met l yX11_isPainter (.code yX11_isPainter cX11_isPainter 2 (some .boolean) :: wA) ({ frames := 1, cells := 0, slots := 0, locals := 22 }) (zP (dC, dI) [(cI, .int), (cJ, .long)] [.ref h0, .int p0] sz [(h0, .inr (11, [.int th, .ref tB, .int tsz, .int tat, .int wr, .int dp, .ref rC, .ref rV, .ref rD, .ref rK, .ref rT, .ref rS, .ref rU, .int lw, .int tx, .ref rL, .ref rX, .ref qR, .ref qB, .ref qP, .int qnb, .int qnp, .ref aR, .ref aB, .ref aP, .int nb, .int np, .ref aN, .ref rf, .int ho, .int br, .ref aK, .int ac, .long dw, .ref aE, .int sr, .int sf, .ref aA, .ref aH, .ref aI, .int hi]))]) (va_Qi (fun (r : Int32) (u : Unit) => (0 ≤ r.toInt) ∧ (r.toInt ≤ 1) ∧ (¬ r.toInt = 0 → (0 ≤ p0.toInt ∧ p0.toInt < np.toInt)) ∧ (r.toInt = 0 → ¬ (0 ≤ p0.toInt ∧ p0.toInt < np.toInt))) (fun (_ : Unit) (_ : State) => True) (va_A [] sz)) 0 0 (va_A [] sz) := by
  refine Met.ofW (cc := cX11_isPainter) (maxL := 2) (ret := (some .boolean)) (by decide) rfl ?_
  intro p e s m args below meth c s₁ B hml hv
  obtain ⟨hargs, hsz, hP, hK, hT⟩ := hv
  have hx := B.exec
  have hb := B.bytes
  have hr := B.returns
  have hts : ∀ w ∈ wA, w.before args s = true := fun w h => atoms_spec (ws := .code yX11_isPainter cX11_isPainter 2 (some .boolean) :: wA) B.pre w (List.mem_cons_of_mem _ h)
  have hown : s.vm.findClass RX11 = some m.cls := findClass_of_methodNamed B.named
  have hlocks := B.notSynchronized
  subst hsz
  have hD : va_D (va_A [] s.heap.size) [] := zD0
  generalize hAe : va_A [] s.heap.size = A at hD ⊢
  have hA : ∀ q : Nat, s.heap.size ≤ q → A q := fun q h => by rw [← hAe]; exact Or.inr h
  have hl := lv_entry ([.ref h0, .int p0]) (n := 2) (Nat.le_of_ble_eq_true rfl)
  rw [show entryFrame m args 2 = entryFrame m ([.ref h0, .int p0] : List Value).toArray 2 by rw [hargs], lg_entry_eq]
  generalize (lg_sl ([.ref h0, .int p0]) ++ List.replicate (2 - (lg_sl ([.ref h0, .int p0])).length) Slot.unset).toArray = ls at hl ⊢
  have hl : lv_has ls 2 [(0, .ref h0), (1, .int p0)] := hl
  refine zstart (fun H hH => ?_)
  rw [← hH] at hP
  have hS : va_S A s.heap H [] := by rw [hH]; exact va_S.rf
  generalize ([] : List Loc) = locs at hS ⊢
  refine zgen (fun R Q hR hQ => ?_)
  refine lv_iload_n hx hb dX11_isPainter_0 rfl (lv_at hl 1 rfl) ?_
  refine lv_iconst (v := 0) hx hb dX11_isPainter_1 (by decide) ?_
  refine lv_aload_n hx hb dX11_isPainter_2 rfl (lv_at hl 0 rfl) ?_
  refine va_get (D := (dC, dI)) (ci := 11) (v := .int np) (C := RX11) (T := TX11) (N := 41) hx hb hts iX11 hown hK hP 0 rfl rfl 26 (by decide) (hts _ qw1153) (fun _ h9 => h9) rfl dX11_isPainter_3 ?_
  refine lv_iconst (v := 1) hx hb dX11_isPainter_6 (by decide) ?_
  refine lv_isub hx hb dX11_isPainter_7 ?_
  refine lv_topi (fun v7 e7 => ?_)
  have i7 : v7.toInt = np.toInt - 1 := zsub e7 rfl (by decide) (by omega) (by omega)
  have hPc : va_P (dC, dI) vwCl [] H := zP0
  have hDc : va_D (fun _ => True) [] := zD0
  have hFc := zfr hS hA
  refine va_calli (va_runS (As := [.int p0, .int 0, .int v7]) (rest := []) ⟨hx, hb, hml, hown, hts⟩ (g_X11_in l dC dI cI cJ p0 0 v7 H.size) (cwS 3 hts (zgS qw1305 qw1306 qw108 qw1307) rfl rfl rfl hd_X11_in ⟨by rw [hR]; exact Nat.le_of_ble_eq_true rfl, by rw [hR]; exact Nat.le_of_ble_eq_true rfl⟩) (zPS hPc hK hDc) rfl rfl hl.1 rfl (lv_room (Nat.le_of_ble_eq_true rfl)) dX11_isPainter_8 ⟨Nat.zero_le _, Nat.zero_le _⟩) hS (fun q _ h => hFc q h) hFc (fun v8 u8 t H locs ht hvm hw hB hz1 hk1 hS => ?_)
  have hP := zkeep hP hk1
  have zn8_0 : (0 : Int32).toInt = 0 := by decide
  obtain ⟨f8_0, f8_1, f8_2, f8_3⟩ : (0 ≤ v8.toInt) ∧ (v8.toInt ≤ 1) ∧ (¬ v8.toInt = 0 → ((0 : Int32).toInt ≤ p0.toInt ∧ p0.toInt ≤ v7.toInt)) ∧ (v8.toInt = 0 → (p0.toInt < (0 : Int32).toInt ∨ v7.toInt < p0.toInt)) := hw
  rw [hQ]
  exact W.zret (v := v8) (ty := .boolean) hx hb hr (znb (by omega) (by omega)) (fun t ht hW => ⟨⟨v8, (), rfl, ⟨by (try dsimp only); omega, by (try dsimp only); omega, by (try dsimp only); omega, by (try dsimp only); omega⟩, trivial⟩, hS.F ht⟩) hS.2.2 dX11_isPainter_11
set_option maxHeartbeats 4000000 in
set_option maxRecDepth 100000 in
theorem g_X11_areBoth (l : Launch) (dC : Nat → ClassId) (dI : Nat → Nat → Nat) (cI cJ : ClassId) (h0 : Nat) (p0 : Int32) (p1 : Int32) (th : Int32) (tB : Nat) (tsz : Int32) (tat : Int32) (wr : Int32) (dp : Int32) (rC : Nat) (rV : Nat) (rD : Nat) (rK : Nat) (rT : Nat) (rS : Nat) (rU : Nat) (lw : Int32) (tx : Int32) (rL : Nat) (rX : Nat) (qR : Nat) (qB : Nat) (qP : Nat) (qnb : Int32) (qnp : Int32) (aR : Nat) (aB : Nat) (aP : Nat) (nb : Int32) (np : Int32) (aN : Nat) (rf : Nat) (ho : Int32) (br : Int32) (aK : Nat) (ac : Int32) (dw : Int64) (aE : Nat) (sr : Int32) (sf : Int32) (aA : Nat) (aH : Nat) (aI : Nat) (hi : Int32) (sz : Nat) (n_ac : 0 ≤ ac.toInt ∧ ac.toInt ≤ 40) (n_hi : 0 ≤ hi.toInt ∧ hi.toInt ≤ 1) (n_ho : (-1) ≤ ho.toInt ∧ ho.toInt ≤ 3) (n_lw : 0 ≤ lw.toInt ∧ lw.toInt ≤ 4) (n_nb : 0 ≤ nb.toInt ∧ nb.toInt ≤ 6) (n_np : 0 ≤ np.toInt ∧ np.toInt ≤ 5) (n_qnb : 0 ≤ qnb.toInt ∧ qnb.toInt ≤ 6) (n_qnp : 0 ≤ qnp.toInt ∧ qnp.toInt ≤ 5) (n_tat : 0 ≤ tat.toInt ∧ tat.toInt ≤ 260) (n_tsz : 0 ≤ tsz.toInt ∧ tsz.toInt ≤ 240) (n_wr : (-1) ≤ wr.toInt ∧ wr.toInt ≤ 260)    : Met l yX11_areBoth (.code yX11_areBoth cX11_areBoth 3 (some .boolean) :: wA) ({ frames := 2, cells := 0, slots := 0, locals := 43 }) (zP (dC, dI) [(cI, .int), (cJ, .long)] [.ref h0, .int p0, .int p1] sz [(h0, .inr (11, [.int th, .ref tB, .int tsz, .int tat, .int wr, .int dp, .ref rC, .ref rV, .ref rD, .ref rK, .ref rT, .ref rS, .ref rU, .int lw, .int tx, .ref rL, .ref rX, .ref qR, .ref qB, .ref qP, .int qnb, .int qnp, .ref aR, .ref aB, .ref aP, .int nb, .int np, .ref aN, .ref rf, .int ho, .int br, .ref aK, .int ac, .long dw, .ref aE, .int sr, .int sf, .ref aA, .ref aH, .ref aI, .int hi]))]) (va_Qi (fun (r : Int32) (u : Unit) => (0 ≤ r.toInt) ∧ (r.toInt ≤ 1) ∧ (¬ r.toInt = 0 → (0 ≤ p0.toInt ∧ p0.toInt < np.toInt ∧ 0 ≤ p1.toInt ∧ p1.toInt < nb.toInt)) ∧ (r.toInt = 0 → ¬ ((0 ≤ p0.toInt ∧ p0.toInt < np.toInt) ∧ 0 ≤ p1.toInt ∧ p1.toInt < nb.toInt))) (fun (_ : Unit) (_ : State) => True) (va_A [] sz)) 0 0 (va_A [] sz) := by
  refine Met.ofW (cc := cX11_areBoth) (maxL := 3) (ret := (some .boolean)) (by decide) rfl ?_
  intro p e s m args below meth c s₁ B hml hv
  obtain ⟨hargs, hsz, hP, hK, hT⟩ := hv
  have hx := B.exec
  have hb := B.bytes
  have hr := B.returns
  have hts : ∀ w ∈ wA, w.before args s = true := fun w h => atoms_spec (ws := .code yX11_areBoth cX11_areBoth 3 (some .boolean) :: wA) B.pre w (List.mem_cons_of_mem _ h)
  have hown : s.vm.findClass RX11 = some m.cls := findClass_of_methodNamed B.named
  have hlocks := B.notSynchronized
  subst hsz
  have hD : va_D (va_A [] s.heap.size) [] := zD0
  generalize hAe : va_A [] s.heap.size = A at hD ⊢
  have hA : ∀ q : Nat, s.heap.size ≤ q → A q := fun q h => by rw [← hAe]; exact Or.inr h
  have hl := lv_entry ([.ref h0, .int p0, .int p1]) (n := 3) (Nat.le_of_ble_eq_true rfl)
  rw [show entryFrame m args 3 = entryFrame m ([.ref h0, .int p0, .int p1] : List Value).toArray 3 by rw [hargs], lg_entry_eq]
  generalize (lg_sl ([.ref h0, .int p0, .int p1]) ++ List.replicate (3 - (lg_sl ([.ref h0, .int p0, .int p1])).length) Slot.unset).toArray = ls at hl ⊢
  have hl : lv_has ls 3 [(0, .ref h0), (1, .int p0), (2, .int p1)] := hl
  refine zstart (fun H hH => ?_)
  rw [← hH] at hP
  have hS : va_S A s.heap H [] := by rw [hH]; exact va_S.rf
  generalize ([] : List Loc) = locs at hS ⊢
  refine zgen (fun R Q hR hQ => ?_)
  refine lv_aload_n hx hb dX11_areBoth_0 rfl (lv_at hl 0 rfl) ?_
  refine lv_iload_n hx hb dX11_areBoth_1 rfl (lv_at hl 1 rfl) ?_
  have hPc := hP.sub (ws' := [(h0, .inr (11, [.int th, .ref tB, .int tsz, .int tat, .int wr, .int dp, .ref rC, .ref rV, .ref rD, .ref rK, .ref rT, .ref rS, .ref rU, .int lw, .int tx, .ref rL, .ref rX, .ref qR, .ref qB, .ref qP, .int qnb, .int qnp, .ref aR, .ref aB, .ref aP, .int nb, .int np, .ref aN, .ref rf, .int ho, .int br, .ref aK, .int ac, .long dw, .ref aE, .int sr, .int sf, .ref aA, .ref aH, .ref aI, .int hi]))]) [0] rfl
  have hDc := hT.sub (ws' := [(h0, .inr (11, [.int th, .ref tB, .int tsz, .int tat, .int wr, .int dp, .ref rC, .ref rV, .ref rD, .ref rK, .ref rT, .ref rS, .ref rU, .int lw, .int tx, .ref rL, .ref rX, .ref qR, .ref qB, .ref qP, .int qnb, .int qnp, .ref aR, .ref aB, .ref aP, .int nb, .int np, .ref aN, .ref rf, .int ho, .int br, .ref aK, .int ac, .long dw, .ref aE, .int sr, .int sf, .ref aA, .ref aH, .ref aI, .int hi]))]) [0] (by decide) rfl
  have hFc := zfr hS hA
  refine va_calli (va_runV (As := [.int p0]) (rest := []) ⟨hx, hb, hml, hown, hts⟩ (g_X11_isPainter l dC dI cI cJ h0 p0 th tB tsz tat wr dp rC rV rD rK rT rS rU lw tx rL rX qR qB qP qnb qnp aR aB aP nb np aN rf ho br aK ac dw aE sr sf aA aH aI hi H.size (by omega) (by omega) (by omega) (by omega) (by omega) (by omega) (by omega) (by omega) (by omega) (by omega) (by omega)) (cwV 1 hts (zgV qw1410 qw1412 qw57 qw108 qw1413) rfl rfl rfl hd_X11_isPainter ⟨by rw [hR]; exact Nat.le_of_ble_eq_true rfl, by rw [hR]; exact Nat.le_of_ble_eq_true rfl⟩) (zPV hPc hK hDc (va_recv hK hP (ci := 11) (q0 := 0) rfl rfl)) rfl rfl hl.1 rfl (lv_room (Nat.le_of_ble_eq_true rfl)) dX11_areBoth_2 ⟨Nat.zero_le _, Nat.zero_le _⟩) hS (fun q _ h => hFc q h) hFc (fun v2 u2 t H locs ht hvm hw hB hz1 hk1 hS => ?_)
  have hP := zkeep hP hk1
  obtain ⟨f2_0, f2_1, f2_2, f2_3⟩ : (0 ≤ v2.toInt) ∧ (v2.toInt ≤ 1) ∧ (¬ v2.toInt = 0 → (0 ≤ p0.toInt ∧ p0.toInt < np.toInt)) ∧ (v2.toInt = 0 → ¬ (0 ≤ p0.toInt ∧ p0.toInt < np.toInt)) := hw
  refine lv_if_eq (tgt := 20) hx hb dX11_areBoth_5 (by decide) (fun c5 => ?_) (fun c5 => ?_)
  · have c5 : v2.toInt = 0 := z5 rfl (by decide) c5
    refine lv_iconst (v := 0) hx hb dX11_areBoth_20 (by decide) ?_
    have zr0 : (0 : Int32).toInt = 0 := by decide
    rw [hQ]
    exact W.zret (v := 0) (ty := .boolean) hx hb hr rfl (fun t ht hW => ⟨⟨0, (), rfl, ⟨by (try dsimp only); omega, by (try dsimp only); omega, by (try dsimp only); omega, by (try dsimp only); omega⟩, trivial⟩, hS.F ht⟩) hS.2.2 dX11_areBoth_21
  · have c5 : ¬ v2.toInt = 0 := z6 rfl (by decide) c5
    refine lv_aload_n hx hb dX11_areBoth_8 rfl (lv_at hl 0 rfl) ?_
    refine lv_iload_n hx hb dX11_areBoth_9 rfl (lv_at hl 2 rfl) ?_
    have hPc := hP.sub (ws' := [(h0, .inr (11, [.int th, .ref tB, .int tsz, .int tat, .int wr, .int dp, .ref rC, .ref rV, .ref rD, .ref rK, .ref rT, .ref rS, .ref rU, .int lw, .int tx, .ref rL, .ref rX, .ref qR, .ref qB, .ref qP, .int qnb, .int qnp, .ref aR, .ref aB, .ref aP, .int nb, .int np, .ref aN, .ref rf, .int ho, .int br, .ref aK, .int ac, .long dw, .ref aE, .int sr, .int sf, .ref aA, .ref aH, .ref aI, .int hi]))]) [0] rfl
    have hDc := hT.sub (ws' := [(h0, .inr (11, [.int th, .ref tB, .int tsz, .int tat, .int wr, .int dp, .ref rC, .ref rV, .ref rD, .ref rK, .ref rT, .ref rS, .ref rU, .int lw, .int tx, .ref rL, .ref rX, .ref qR, .ref qB, .ref qP, .int qnb, .int qnp, .ref aR, .ref aB, .ref aP, .int nb, .int np, .ref aN, .ref rf, .int ho, .int br, .ref aK, .int ac, .long dw, .ref aE, .int sr, .int sf, .ref aA, .ref aH, .ref aI, .int hi]))]) [0] (by decide) rfl
    have hFc := zfr hS hA
    refine va_calli (va_runV (As := [.int p1]) (rest := []) ⟨hx, hb, hml, hown, hts⟩ (g_X11_isBride l dC dI cI cJ h0 p1 th tB tsz tat wr dp rC rV rD rK rT rS rU lw tx rL rX qR qB qP qnb qnp aR aB aP nb np aN rf ho br aK ac dw aE sr sf aA aH aI hi H.size (by omega) (by omega) (by omega) (by omega) (by omega) (by omega) (by omega) (by omega) (by omega) (by omega) (by omega)) (cwV 1 hts (zgV qw1402 qw1404 qw56 qw108 qw1405) rfl rfl rfl hd_X11_isBride ⟨by rw [hR]; exact Nat.le_of_ble_eq_true rfl, by rw [hR]; exact Nat.le_of_ble_eq_true rfl⟩) (zPV hPc hK hDc (va_recv hK hP (ci := 11) (q0 := 0) rfl rfl)) rfl rfl hl.1 rfl (lv_room (Nat.le_of_ble_eq_true rfl)) dX11_areBoth_10 ⟨Nat.zero_le _, Nat.zero_le _⟩) hS (fun q _ h => hFc q h) hFc (fun v10 u10 t H locs ht hvm hw hB hz1 hk1 hS => ?_)
    have hP := zkeep hP hk1
    obtain ⟨f10_0, f10_1, f10_2, f10_3⟩ : (0 ≤ v10.toInt) ∧ (v10.toInt ≤ 1) ∧ (¬ v10.toInt = 0 → (0 ≤ p1.toInt ∧ p1.toInt < nb.toInt)) ∧ (v10.toInt = 0 → ¬ (0 ≤ p1.toInt ∧ p1.toInt < nb.toInt)) := hw
    refine lv_if_eq (tgt := 20) hx hb dX11_areBoth_13 (by decide) (fun c13 => ?_) (fun c13 => ?_)
    · have c13 : v10.toInt = 0 := z5 rfl (by decide) c13
      refine lv_iconst (v := 0) hx hb dX11_areBoth_20 (by decide) ?_
      have zr0 : (0 : Int32).toInt = 0 := by decide
      rw [hQ]
      exact W.zret (v := 0) (ty := .boolean) hx hb hr rfl (fun t ht hW => ⟨⟨0, (), rfl, ⟨by (try dsimp only); omega, by (try dsimp only); omega, by (try dsimp only); omega, by (try dsimp only); omega⟩, trivial⟩, hS.F ht⟩) hS.2.2 dX11_areBoth_21
    · have c13 : ¬ v10.toInt = 0 := z6 rfl (by decide) c13
      refine lv_iconst (v := 1) hx hb dX11_areBoth_16 (by decide) ?_
      refine lv_goto (tgt := 21) hx hb dX11_areBoth_17 (by decide) ?_
      have zr0 : (1 : Int32).toInt = 1 := by decide
      rw [hQ]
      exact W.zret (v := 1) (ty := .boolean) hx hb hr rfl (fun t ht hW => ⟨⟨1, (), rfl, ⟨by (try dsimp only); omega, by (try dsimp only); omega, by (try dsimp only); omega, by (try dsimp only); omega⟩, trivial⟩, hS.F ht⟩) hS.2.2 dX11_areBoth_21
set_option maxHeartbeats 4000000 in
set_option maxRecDepth 100000 in
theorem g_X11_isFace (l : Launch) (dC : Nat → ClassId) (dI : Nat → Nat → Nat) (cI cJ : ClassId) (p0 : Int32) (sz : Nat)     : Met l yX11_isFace (.code yX11_isFace cX11_isFace 1 (some .boolean) :: wA) ({ frames := 1, cells := 0, slots := 0, locals := 22 }) (zP (dC, dI) [(cI, .int), (cJ, .long)] [.int p0] sz []) (va_Qi (fun (r : Int32) (u : Unit) => (0 ≤ r.toInt) ∧ (r.toInt ≤ 1) ∧ (¬ r.toInt = 0 → (0 ≤ p0.toInt ∧ p0.toInt ≤ 9)) ∧ (r.toInt = 0 → ¬ (0 ≤ p0.toInt ∧ p0.toInt ≤ 9))) (fun (_ : Unit) (_ : State) => True) (va_A [] sz)) 0 0 (va_A [] sz) := by
  refine Met.ofW (cc := cX11_isFace) (maxL := 1) (ret := (some .boolean)) (by decide) rfl ?_
  intro p e s m args below meth c s₁ B hml hv
  obtain ⟨hargs, hsz, hP, hK, hT⟩ := hv
  have hx := B.exec
  have hb := B.bytes
  have hr := B.returns
  have hts : ∀ w ∈ wA, w.before args s = true := fun w h => atoms_spec (ws := .code yX11_isFace cX11_isFace 1 (some .boolean) :: wA) B.pre w (List.mem_cons_of_mem _ h)
  have hown : s.vm.findClass RX11 = some m.cls := findClass_of_methodNamed B.named
  have hlocks := B.notSynchronized
  subst hsz
  have hD : va_D (va_A [] s.heap.size) [] := zD0
  generalize hAe : va_A [] s.heap.size = A at hD ⊢
  have hA : ∀ q : Nat, s.heap.size ≤ q → A q := fun q h => by rw [← hAe]; exact Or.inr h
  have hl := lv_entry ([.int p0]) (n := 1) (Nat.le_of_ble_eq_true rfl)
  rw [show entryFrame m args 1 = entryFrame m ([.int p0] : List Value).toArray 1 by rw [hargs], lg_entry_eq]
  generalize (lg_sl ([.int p0]) ++ List.replicate (1 - (lg_sl ([.int p0])).length) Slot.unset).toArray = ls at hl ⊢
  have hl : lv_has ls 1 [(0, .int p0)] := hl
  refine zstart (fun H hH => ?_)
  rw [← hH] at hP
  have hS : va_S A s.heap H [] := by rw [hH]; exact va_S.rf
  generalize ([] : List Loc) = locs at hS ⊢
  refine zgen (fun R Q hR hQ => ?_)
  refine lv_iload_n hx hb dX11_isFace_0 rfl (lv_at hl 0 rfl) ?_
  refine lv_iconst (v := 0) hx hb dX11_isFace_1 (by decide) ?_
  refine lv_bipush (v := 9) hx hb dX11_isFace_2 (by decide) ?_
  have hPc : va_P (dC, dI) vwCl [] H := zP0
  have hDc : va_D (fun _ => True) [] := zD0
  have hFc := zfr hS hA
  refine va_calli (va_runS (As := [.int p0, .int 0, .int 9]) (rest := []) ⟨hx, hb, hml, hown, hts⟩ (g_X11_in l dC dI cI cJ p0 0 9 H.size) (cwS 3 hts (zgS qw1305 qw1306 qw108 qw1307) rfl rfl rfl hd_X11_in ⟨by rw [hR]; exact Nat.le_of_ble_eq_true rfl, by rw [hR]; exact Nat.le_of_ble_eq_true rfl⟩) (zPS hPc hK hDc) rfl rfl hl.1 rfl (lv_room (Nat.le_of_ble_eq_true rfl)) dX11_isFace_4 ⟨Nat.zero_le _, Nat.zero_le _⟩) hS (fun q _ h => hFc q h) hFc (fun v4 u4 t H locs ht hvm hw hB hz1 hk1 hS => ?_)
  have hP := zkeep hP hk1
  have zn4_0 : (0 : Int32).toInt = 0 := by decide
  have zn4_9 : (9 : Int32).toInt = 9 := by decide
  obtain ⟨f4_0, f4_1, f4_2, f4_3⟩ : (0 ≤ v4.toInt) ∧ (v4.toInt ≤ 1) ∧ (¬ v4.toInt = 0 → ((0 : Int32).toInt ≤ p0.toInt ∧ p0.toInt ≤ (9 : Int32).toInt)) ∧ (v4.toInt = 0 → (p0.toInt < (0 : Int32).toInt ∨ (9 : Int32).toInt < p0.toInt)) := hw
  rw [hQ]
  exact W.zret (v := v4) (ty := .boolean) hx hb hr (znb (by omega) (by omega)) (fun t ht hW => ⟨⟨v4, (), rfl, ⟨by (try dsimp only); omega, by (try dsimp only); omega, by (try dsimp only); omega, by (try dsimp only); omega⟩, trivial⟩, hS.F ht⟩) hS.2.2 dX11_isFace_7
set_option maxHeartbeats 4000000 in
set_option maxRecDepth 100000 in
theorem g_X11_flatteryBy (l : Launch) (dC : Nat → ClassId) (dI : Nat → Nat → Nat) (cI cJ : ClassId) (h0 : Nat) (p0 : Int32) (p1 : Int32) (th : Int32) (tB : Nat) (tsz : Int32) (tat : Int32) (wr : Int32) (dp : Int32) (rC : Nat) (rV : Nat) (rD : Nat) (rK : Nat) (rT : Nat) (rS : Nat) (rU : Nat) (lw : Int32) (tx : Int32) (rL : Nat) (rX : Nat) (qR : Nat) (qB : Nat) (qP : Nat) (qnb : Int32) (qnp : Int32) (aR : Nat) (aB : Nat) (aP : Nat) (nb : Int32) (np : Int32) (aN : Nat) (rf : Nat) (ho : Int32) (br : Int32) (aK : Nat) (ac : Int32) (dw : Int64) (aE : Nat) (sr : Int32) (sf : Int32) (aA : Nat) (aH : Nat) (aI : Nat) (hi : Int32) (fN : Nat → Int32) (sz : Nat) (n_ac : 0 ≤ ac.toInt ∧ ac.toInt ≤ 40) (n_hi : 0 ≤ hi.toInt ∧ hi.toInt ≤ 1) (n_ho : (-1) ≤ ho.toInt ∧ ho.toInt ≤ 3) (n_lw : 0 ≤ lw.toInt ∧ lw.toInt ≤ 4) (n_nb : 0 ≤ nb.toInt ∧ nb.toInt ≤ 6) (n_np : 0 ≤ np.toInt ∧ np.toInt ≤ 5) (n_p0 : 0 ≤ p0.toInt ∧ p0.toInt ≤ 4) (n_qnb : 0 ≤ qnb.toInt ∧ qnb.toInt ≤ 6) (n_qnp : 0 ≤ qnp.toInt ∧ qnp.toInt ≤ 5) (n_tat : 0 ≤ tat.toInt ∧ tat.toInt ≤ 260) (n_tsz : 0 ≤ tsz.toInt ∧ tsz.toInt ≤ 240) (n_wr : (-1) ≤ wr.toInt ∧ wr.toInt ≤ 260)    : Met l yX11_flatteryBy (.code yX11_flatteryBy cX11_flatteryBy 3 (some .int) :: wA) ({ frames := 1, cells := 0, slots := 0, locals := 30 }) (zP (dC, dI) [(cI, .int), (cJ, .long)] [.ref h0, .int p0, .int p1] sz [(h0, .inr (11, [.int th, .ref tB, .int tsz, .int tat, .int wr, .int dp, .ref rC, .ref rV, .ref rD, .ref rK, .ref rT, .ref rS, .ref rU, .int lw, .int tx, .ref rL, .ref rX, .ref qR, .ref qB, .ref qP, .int qnb, .int qnp, .ref aR, .ref aB, .ref aP, .int nb, .int np, .ref aN, .ref rf, .int ho, .int br, .ref aK, .int ac, .long dw, .ref aE, .int sr, .int sf, .ref aA, .ref aH, .ref aI, .int hi])), (aN, .inl (cI, 97, .inl fN))]) (va_Qi (fun (r : Int32) (u : Unit) => (0 ≤ r.toInt) ∧ (r = zFl (fN (6 + p0.toInt.toNat)) p1)) (fun (_ : Unit) (_ : State) => True) (va_A [] sz)) 0 0 (va_A [] sz) := by
  refine Met.ofW (cc := cX11_flatteryBy) (maxL := 3) (ret := (some .int)) (by decide) rfl ?_
  intro p e s m args below meth c s₁ B hml hv
  obtain ⟨hargs, hsz, hP, hK, hT⟩ := hv
  have hx := B.exec
  have hb := B.bytes
  have hr := B.returns
  have hts : ∀ w ∈ wA, w.before args s = true := fun w h => atoms_spec (ws := .code yX11_flatteryBy cX11_flatteryBy 3 (some .int) :: wA) B.pre w (List.mem_cons_of_mem _ h)
  have hown : s.vm.findClass RX11 = some m.cls := findClass_of_methodNamed B.named
  have hlocks := B.notSynchronized
  subst hsz
  have hD : va_D (va_A [] s.heap.size) [] := zD0
  generalize hAe : va_A [] s.heap.size = A at hD ⊢
  have hA : ∀ q : Nat, s.heap.size ≤ q → A q := fun q h => by rw [← hAe]; exact Or.inr h
  have hl := lv_entry ([.ref h0, .int p0, .int p1]) (n := 3) (Nat.le_of_ble_eq_true rfl)
  rw [show entryFrame m args 3 = entryFrame m ([.ref h0, .int p0, .int p1] : List Value).toArray 3 by rw [hargs], lg_entry_eq]
  generalize (lg_sl ([.ref h0, .int p0, .int p1]) ++ List.replicate (3 - (lg_sl ([.ref h0, .int p0, .int p1])).length) Slot.unset).toArray = ls at hl ⊢
  have hl : lv_has ls 3 [(0, .ref h0), (1, .int p0), (2, .int p1)] := hl
  refine zstart (fun H hH => ?_)
  rw [← hH] at hP
  have hS : va_S A s.heap H [] := by rw [hH]; exact va_S.rf
  generalize ([] : List Loc) = locs at hS ⊢
  refine zgen (fun R Q hR hQ => ?_)
  refine lv_iconst (v := 0) hx hb dX11_flatteryBy_0 (by decide) ?_
  refine lv_iload_n hx hb dX11_flatteryBy_1 rfl (lv_at hl 2 rfl) ?_
  refine lv_aload_n hx hb dX11_flatteryBy_2 rfl (lv_at hl 0 rfl) ?_
  refine va_get (D := (dC, dI)) (ci := 11) (v := .ref aN) (C := RX11) (T := TX11) (N := 41) hx hb hts iX11 hown hK hP 0 rfl rfl 27 (by decide) (hts _ qw1154) (fun _ h9 => h9) rfl dX11_flatteryBy_3 ?_
  refine lv_bipush (v := 6) hx hb dX11_flatteryBy_6 (by decide) ?_
  refine lv_iload_n hx hb dX11_flatteryBy_8 rfl (lv_at hl 1 rfl) ?_
  refine lv_iadd hx hb dX11_flatteryBy_9 ?_
  refine lv_topi (fun v9 e9 => ?_)
  have i9 : v9.toInt = 6 + p0.toInt := zadd e9 (by decide) rfl (by omega) (by omega)
  refine va_iald hx hb hK hP 1 0 rfl rfl (vp_in_iff.mpr ⟨by omega, by omega⟩) dX11_flatteryBy_10 ?_
  refine lv_topi (fun v10 e10 => ?_)
  refine lv_iconst (v := 3) hx hb dX11_flatteryBy_11 (by decide) ?_
  refine lv_idiv hx hb dX11_flatteryBy_12 (by decide) ?_
  refine lv_topi (fun v12 e12 => ?_)
  refine lv_isub hx hb dX11_flatteryBy_13 ?_
  refine lv_topi (fun v13 e13 => ?_)
  refine va_mmax hx hb (by rw [hml]; exact hl.1.symm) hown (hts _ qw1430) (hts _ qw634) (hts _ qw112) (hts _ qw635) (by rw [hR]; exact Nat.le_of_ble_eq_true rfl) (by rw [hR]; exact Nat.le_of_ble_eq_true rfl) (Nat.zero_le _) (Nat.zero_le _) dX11_flatteryBy_14 ?_
  refine lv_topi (fun v14 e14 => ?_)
  have zc14_0 : (0 : Int32).toInt = 0 := by decide
  have i14 := zmmax e14
  rw [hQ]
  exact W.iret (v := v14) hx hb hr (fun t ht hW => ⟨⟨v14, (), rfl, ⟨by (try dsimp only); omega, by (try dsimp only); exact zFl_mk e14 e13 e12 (zIxN e10 (by omega))⟩, trivial⟩, hS.F ht⟩) hS.2.2 dX11_flatteryBy_17
set_option maxHeartbeats 4000000 in
set_option maxRecDepth 100000 in
theorem g_X11_latestOf (l : Launch) (dC : Nat → ClassId) (dI : Nat → Nat → Nat) (cI cJ : ClassId) (h0 : Nat) (p0 : Int32) (th : Int32) (tB : Nat) (tsz : Int32) (tat : Int32) (wr : Int32) (dp : Int32) (rC : Nat) (rV : Nat) (rD : Nat) (rK : Nat) (rT : Nat) (rS : Nat) (rU : Nat) (lw : Int32) (tx : Int32) (rL : Nat) (rX : Nat) (qR : Nat) (qB : Nat) (qP : Nat) (qnb : Int32) (qnp : Int32) (aR : Nat) (aB : Nat) (aP : Nat) (nb : Int32) (np : Int32) (aN : Nat) (rf : Nat) (ho : Int32) (br : Int32) (aK : Nat) (ac : Int32) (dw : Int64) (aE : Nat) (sr : Int32) (sf : Int32) (aA : Nat) (aH : Nat) (aI : Nat) (hi : Int32) (fN : Nat → Int32) (sz : Nat) (n_ac : 0 ≤ ac.toInt ∧ ac.toInt ≤ 40) (n_hi : 0 ≤ hi.toInt ∧ hi.toInt ≤ 1) (n_ho : (-1) ≤ ho.toInt ∧ ho.toInt ≤ 3) (n_lw : 0 ≤ lw.toInt ∧ lw.toInt ≤ 4) (n_nb : 0 ≤ nb.toInt ∧ nb.toInt ≤ 6) (n_np : 0 ≤ np.toInt ∧ np.toInt ≤ 5) (n_qnb : 0 ≤ qnb.toInt ∧ qnb.toInt ≤ 6) (n_qnp : 0 ≤ qnp.toInt ∧ qnp.toInt ≤ 5) (n_tat : 0 ≤ tat.toInt ∧ tat.toInt ≤ 260) (n_tsz : 0 ≤ tsz.toInt ∧ tsz.toInt ≤ 240) (n_wr : (-1) ≤ wr.toInt ∧ wr.toInt ≤ 260)  (ci_fN_zNw_np : zNw np fN)  : Met l yX11_latestOf (.code yX11_latestOf cX11_latestOf 3 (some .int) :: wA) ({ frames := 1, cells := 0, slots := 0, locals := 22 }) (zP (dC, dI) [(cI, .int), (cJ, .long)] [.ref h0, .int p0] sz [(h0, .inr (11, [.int th, .ref tB, .int tsz, .int tat, .int wr, .int dp, .ref rC, .ref rV, .ref rD, .ref rK, .ref rT, .ref rS, .ref rU, .int lw, .int tx, .ref rL, .ref rX, .ref qR, .ref qB, .ref qP, .int qnb, .int qnp, .ref aR, .ref aB, .ref aP, .int nb, .int np, .ref aN, .ref rf, .int ho, .int br, .ref aK, .int ac, .long dw, .ref aE, .int sr, .int sf, .ref aA, .ref aH, .ref aI, .int hi])), (aN, .inl (cI, 97, .inl fN))]) (va_Qi (fun (r : Int32) (u : Unit) => ((-1) ≤ r.toInt) ∧ (r.toInt ≤ 9) ∧ (r = zLat (fun i => fN (17 + i)) p0 (fN 16).toInt.toNat)) (fun (_ : Unit) (_ : State) => True) (va_A [] sz)) 0 0 (va_A [] sz) := by
  refine Met.ofW (cc := cX11_latestOf) (maxL := 3) (ret := (some .int)) (by decide) rfl ?_
  intro p e s m args below meth c s₁ B hml hv
  obtain ⟨hargs, hsz, hP, hK, hT⟩ := hv
  have hx := B.exec
  have hb := B.bytes
  have hr := B.returns
  have hts : ∀ w ∈ wA, w.before args s = true := fun w h => atoms_spec (ws := .code yX11_latestOf cX11_latestOf 3 (some .int) :: wA) B.pre w (List.mem_cons_of_mem _ h)
  have hown : s.vm.findClass RX11 = some m.cls := findClass_of_methodNamed B.named
  have hlocks := B.notSynchronized
  subst hsz
  have hD : va_D (va_A [] s.heap.size) [] := zD0
  generalize hAe : va_A [] s.heap.size = A at hD ⊢
  have hA : ∀ q : Nat, s.heap.size ≤ q → A q := fun q h => by rw [← hAe]; exact Or.inr h
  have hl := lv_entry ([.ref h0, .int p0]) (n := 3) (Nat.le_of_ble_eq_true rfl)
  rw [show entryFrame m args 3 = entryFrame m ([.ref h0, .int p0] : List Value).toArray 3 by rw [hargs], lg_entry_eq]
  generalize (lg_sl ([.ref h0, .int p0]) ++ List.replicate (3 - (lg_sl ([.ref h0, .int p0])).length) Slot.unset).toArray = ls at hl ⊢
  have hl : lv_has ls 3 [(0, .ref h0), (1, .int p0)] := hl
  refine zstart (fun H hH => ?_)
  rw [← hH] at hP
  have hS : va_S A s.heap H [] := by rw [hH]; exact va_S.rf
  generalize ([] : List Loc) = locs at hS ⊢
  refine zgen (fun R Q hR hQ => ?_)
  refine lv_aload_n hx hb dX11_latestOf_0 rfl (lv_at hl 0 rfl) ?_
  refine va_get (D := (dC, dI)) (ci := 11) (v := .ref aN) (C := RX11) (T := TX11) (N := 41) hx hb hts iX11 hown hK hP 0 rfl rfl 27 (by decide) (hts _ qw1154) (fun _ h9 => h9) rfl dX11_latestOf_1 ?_
  refine lv_bipush (v := 16) hx hb dX11_latestOf_4 (by decide) ?_
  refine va_iald hx hb hK hP 1 0 rfl rfl (by unfold vp_in; decide) dX11_latestOf_6 ?_
  refine lv_topi (fun v6 e6 => ?_)
  have i6 : v6.toInt = (fN 16).toInt ∧ 0 ≤ v6.toInt ∧ v6.toInt ≤ 20 := zNw_16 ci_fN_zNw_np e6
  refine lv_iconst (v := 1) hx hb dX11_latestOf_7 (by decide) ?_
  refine lv_isub hx hb dX11_latestOf_8 ?_
  refine lv_topi (fun v8 e8 => ?_)
  have i8 : v8.toInt = v6.toInt - 1 := zsub e8 rfl (by decide) (by omega) (by omega)
  have J10 : ∀ (n : Nat) (m10_L_2 : Int32), ((-1) ≤ m10_L_2.toInt ∧ m10_L_2.toInt ≤ 19) → (m10_L_2.toInt < (fN 16).toInt) → (zLat (fun i => fN (17 + i)) p0 (fN 16).toInt.toNat = zLat (fun i => fN (17 + i)) p0 (m10_L_2.toInt + 1).toNat) → (m10_L_2.toInt - (-2)).toNat = n → ∀ (H : Heap) (locs : List Loc) (ls : Array Slot), va_P (dC, dI) vwCl [(h0, .inr (11, [.int th, .ref tB, .int tsz, .int tat, .int wr, .int dp, .ref rC, .ref rV, .ref rD, .ref rK, .ref rT, .ref rS, .ref rU, .int lw, .int tx, .ref rL, .ref rX, .ref qR, .ref qB, .ref qP, .int qnb, .int qnp, .ref aR, .ref aB, .ref aP, .int nb, .int np, .ref aN, .ref rf, .int ho, .int br, .ref aK, .int ac, .long dw, .ref aE, .int sr, .int sf, .ref aA, .ref aH, .ref aI, .int hi])), (aN, .inl (cI, 97, .inl fN))] H → va_S A s.heap H locs → lv_has ls 3 [(2, .int m10_L_2), (0, .ref h0), (1, .int p0)] → W p l e R s m args below meth c H locs 0 0 Q (F0 m 10 ls []) := by
    intro n10
    induction n10 using Nat.strongRecOn with
    | _ n10 ih10 =>
      intro m10_L_2 jf10_0 jf10_1 jv10_0 hmu10 H locs ls hP hS hl
      refine lv_iload_n hx hb dX11_latestOf_10 rfl (lv_at hl 0 rfl) ?_
      refine lv_if_lt (tgt := 37) hx hb dX11_latestOf_11 (by decide) (fun c11 => ?_) (fun c11 => ?_)
      · have c11 : m10_L_2.toInt < 0 := z1 rfl (by decide) c11
        refine lv_iconst (v := (-1)) hx hb dX11_latestOf_37 (by decide) ?_
        have zr0 : ((-1) : Int32).toInt = (-1) := by decide
        rw [hQ]
        exact W.iret (v := ((-1))) hx hb hr (fun t ht hW => ⟨⟨(-1), (), rfl, ⟨by (try dsimp only); omega, by (try dsimp only); omega, by (try dsimp only); exact (zLat_e jv10_0 (by omega)).symm⟩, trivial⟩, hS.F ht⟩) hS.2.2 dX11_latestOf_38
      · have c11 : 0 ≤ m10_L_2.toInt := z2 rfl (by decide) c11
        refine lv_aload_n hx hb dX11_latestOf_14 rfl (lv_at hl 1 rfl) ?_
        refine lv_iload_n hx hb dX11_latestOf_15 rfl (lv_at hl 0 rfl) ?_
        refine lv_iconst (v := 1) hx hb dX11_latestOf_16 (by decide) ?_
        have hPc := hP.sub (ws' := [(h0, .inr (11, [.int th, .ref tB, .int tsz, .int tat, .int wr, .int dp, .ref rC, .ref rV, .ref rD, .ref rK, .ref rT, .ref rS, .ref rU, .int lw, .int tx, .ref rL, .ref rX, .ref qR, .ref qB, .ref qP, .int qnb, .int qnp, .ref aR, .ref aB, .ref aP, .int nb, .int np, .ref aN, .ref rf, .int ho, .int br, .ref aK, .int ac, .long dw, .ref aE, .int sr, .int sf, .ref aA, .ref aH, .ref aI, .int hi])), (aN, .inl (cI, 97, .inl fN))]) [0, 1] rfl
        have hDc := hT.sub (ws' := [(h0, .inr (11, [.int th, .ref tB, .int tsz, .int tat, .int wr, .int dp, .ref rC, .ref rV, .ref rD, .ref rK, .ref rT, .ref rS, .ref rU, .int lw, .int tx, .ref rL, .ref rX, .ref qR, .ref qB, .ref qP, .int qnb, .int qnp, .ref aR, .ref aB, .ref aP, .int nb, .int np, .ref aN, .ref rf, .int ho, .int br, .ref aK, .int ac, .long dw, .ref aE, .int sr, .int sf, .ref aA, .ref aH, .ref aI, .int hi])), (aN, .inl (cI, 97, .inl fN))]) [0, 1] (by decide) rfl
        have hFc := zfr hS hA
        refine va_calli (va_runV (As := [.int m10_L_2, .int 1]) (rest := []) ⟨hx, hb, hml, hown, hts⟩ (g_X11_shot_1 l dC dI cI cJ h0 m10_L_2 th tB tsz tat wr dp rC rV rD rK rT rS rU lw tx rL rX qR qB qP qnb qnp aR aB aP nb np aN rf ho br aK ac dw aE sr sf aA aH aI hi fN H.size (by omega) (by omega) (by omega) (by omega) (by omega) (by omega) (by omega) (by omega) (by omega) (by omega) (by omega) (by omega) (by omega) ci_fN_zNw_np) (cwV 2 hts (zgV qw1473 qw1475 qw65 qw108 qw1476) rfl rfl rfl hd_X11_shot ⟨by rw [hR]; exact Nat.le_of_ble_eq_true rfl, by rw [hR]; exact Nat.le_of_ble_eq_true rfl⟩) (zPV hPc hK hDc (va_recv hK hP (ci := 11) (q0 := 0) rfl rfl)) rfl rfl hl.1 rfl (lv_room (Nat.le_of_ble_eq_true rfl)) dX11_latestOf_17 ⟨Nat.zero_le _, Nat.zero_le _⟩) hS (fun q _ h => hFc q h) hFc (fun v17 u17 t H locs ht hvm hw hB hz1 hk1 hS => ?_)
        have hP := zkeep hP hk1
        obtain ⟨f17_0, f17_1, f17_2, f17_3⟩ : (0 ≤ v17.toInt) ∧ (v17.toInt ≤ 4) ∧ (v17.toInt < np.toInt) ∧ (v17 = fN (17 + (4 * m10_L_2.toInt.toNat + 1))) := hw
        have F17 := f17_3
        refine lv_iload_n hx hb dX11_latestOf_20 rfl (lv_at hl 2 rfl) ?_
        refine lv_icmp_ne (tgt := 31) hx hb dX11_latestOf_21 (by decide) (fun c21 => ?_) (fun c21 => ?_)
        · have c21 : ¬ v17.toInt = p0.toInt := z6 rfl rfl c21
          obtain ⟨v31, e31⟩ : ∃ y : Int32, y = m10_L_2 + Int32.ofInt (-1) := ⟨_, rfl⟩
          refine lv_iinc (v := v31) (lv' := [(2, .int v31), (0, .ref h0), (1, .int p0)]) hx hb dX11_latestOf_31 hl (k := 0) rfl e31.symm (by decide) rfl (fun ls hl => ?_)
          have i31 : v31.toInt = m10_L_2.toInt + (-1) := zaddI e31 (by decide) (by omega) (by omega)
          refine lv_goto (tgt := 10) hx hb dX11_latestOf_34 (by decide) ?_
          exact ih10 _ (by omega) v31 (by omega) (by omega) (zLat_s (P := fun i => fN (17 + i)) jv10_0 (by omega) F17 (by omega) _ (by omega)) rfl H locs ls hP hS (lv_sub hl [0, 1, 2] rfl)
        · have c21 : v17.toInt = p0.toInt := z5 rfl rfl c21
          refine lv_aload_n hx hb dX11_latestOf_24 rfl (lv_at hl 1 rfl) ?_
          refine lv_iload_n hx hb dX11_latestOf_25 rfl (lv_at hl 0 rfl) ?_
          refine lv_iconst (v := 2) hx hb dX11_latestOf_26 (by decide) ?_
          have hPc := hP.sub (ws' := [(h0, .inr (11, [.int th, .ref tB, .int tsz, .int tat, .int wr, .int dp, .ref rC, .ref rV, .ref rD, .ref rK, .ref rT, .ref rS, .ref rU, .int lw, .int tx, .ref rL, .ref rX, .ref qR, .ref qB, .ref qP, .int qnb, .int qnp, .ref aR, .ref aB, .ref aP, .int nb, .int np, .ref aN, .ref rf, .int ho, .int br, .ref aK, .int ac, .long dw, .ref aE, .int sr, .int sf, .ref aA, .ref aH, .ref aI, .int hi])), (aN, .inl (cI, 97, .inl fN))]) [0, 1] rfl
          have hDc := hT.sub (ws' := [(h0, .inr (11, [.int th, .ref tB, .int tsz, .int tat, .int wr, .int dp, .ref rC, .ref rV, .ref rD, .ref rK, .ref rT, .ref rS, .ref rU, .int lw, .int tx, .ref rL, .ref rX, .ref qR, .ref qB, .ref qP, .int qnb, .int qnp, .ref aR, .ref aB, .ref aP, .int nb, .int np, .ref aN, .ref rf, .int ho, .int br, .ref aK, .int ac, .long dw, .ref aE, .int sr, .int sf, .ref aA, .ref aH, .ref aI, .int hi])), (aN, .inl (cI, 97, .inl fN))]) [0, 1] (by decide) rfl
          have hFc := zfr hS hA
          refine va_calli (va_runV (As := [.int m10_L_2, .int 2]) (rest := []) ⟨hx, hb, hml, hown, hts⟩ (g_X11_shot_2 l dC dI cI cJ h0 m10_L_2 th tB tsz tat wr dp rC rV rD rK rT rS rU lw tx rL rX qR qB qP qnb qnp aR aB aP nb np aN rf ho br aK ac dw aE sr sf aA aH aI hi fN H.size (by omega) (by omega) (by omega) (by omega) (by omega) (by omega) (by omega) (by omega) (by omega) (by omega) (by omega) (by omega) (by omega) ci_fN_zNw_np) (cwV 2 hts (zgV qw1473 qw1475 qw65 qw108 qw1476) rfl rfl rfl hd_X11_shot ⟨by rw [hR]; exact Nat.le_of_ble_eq_true rfl, by rw [hR]; exact Nat.le_of_ble_eq_true rfl⟩) (zPV hPc hK hDc (va_recv hK hP (ci := 11) (q0 := 0) rfl rfl)) rfl rfl hl.1 rfl (lv_room (Nat.le_of_ble_eq_true rfl)) dX11_latestOf_27 ⟨Nat.zero_le _, Nat.zero_le _⟩) hS (fun q _ h => hFc q h) hFc (fun v27 u27 t H locs ht hvm hw hB hz1 hk1 hS => ?_)
          have hP := zkeep hP hk1
          obtain ⟨f27_0, f27_1, f27_2⟩ : ((-1) ≤ v27.toInt) ∧ (v27.toInt ≤ 9) ∧ (v27 = fN (17 + (4 * m10_L_2.toInt.toNat + 2))) := hw
          have F27 := f27_2
          rw [hQ]
          exact W.iret (v := v27) hx hb hr (fun t ht hW => ⟨⟨v27, (), rfl, ⟨by (try dsimp only); omega, by (try dsimp only); omega, by (try dsimp only); exact F27.trans (zLat_y (P := fun i => fN (17 + i)) jv10_0 (by omega) F17 (by omega)).symm⟩, trivial⟩, hS.F ht⟩) hS.2.2 dX11_latestOf_30
  refine lv_istore_n (lv' := [(2, .int v8), (0, .ref h0), (1, .int p0)]) hx hb dX11_latestOf_9 rfl hl (by decide) rfl (fun ls hl => ?_)
  exact J10 _ v8 (by omega) (by omega) (by rw [show (v8.toInt + 1).toNat = (fN 16).toInt.toNat by omega]) rfl H locs ls hP hS (lv_sub hl [0, 1, 2] rfl)
