set_option maxHeartbeats 4000000 in
set_option maxRecDepth 100000 in
theorem g_X4_joined (l : Launch) (dC : Nat → ClassId) (dI : Nat → Nat → Nat) (cI cJ : ClassId) (p0 : Int32) (p1 : Int32) (p2 : Int32) (sz : Nat)     : Met l yX4_joined (.code yX4_joined cX4_joined 5 (some .int) :: wA) ({ frames := 0, cells := 0, slots := 0, locals := 0 }) (zP (dC, dI) [(cI, .int), (cJ, .long)] [.int p0, .int p1, .int p2] sz []) (va_Qi (fun (r : Int32) (u : Unit) => (r = zJc p0.toInt p1 p2)) (fun (_ : Unit) (_ : State) => True) (va_A [] sz)) 0 0 (va_A [] sz) := by
  refine Met.ofW (cc := cX4_joined) (maxL := 5) (ret := (some .int)) (by decide) rfl ?_
  intro p e s m args below meth c s₁ B hml hv
  obtain ⟨hargs, hsz, hP, hK, hT⟩ := hv
  have hx := B.exec
  have hb := B.bytes
  have hr := B.returns
  have hts : ∀ w ∈ wA, w.before args s = true := fun w h => atoms_spec (ws := .code yX4_joined cX4_joined 5 (some .int) :: wA) B.pre w (List.mem_cons_of_mem _ h)
  have hown : s.vm.findClass RX4 = some m.cls := findClass_of_methodNamed B.named
  have hlocks := B.notSynchronized
  subst hsz
  have hD : va_D (va_A [] s.heap.size) [] := zD0
  generalize hAe : va_A [] s.heap.size = A at hD ⊢
  have hA : ∀ q : Nat, s.heap.size ≤ q → A q := fun q h => by rw [← hAe]; exact Or.inr h
  have hl := lv_entry ([.int p0, .int p1, .int p2]) (n := 5) (Nat.le_of_ble_eq_true rfl)
  rw [show entryFrame m args 5 = entryFrame m ([.int p0, .int p1, .int p2] : List Value).toArray 5 by rw [hargs], lg_entry_eq]
  generalize (lg_sl ([.int p0, .int p1, .int p2]) ++ List.replicate (5 - (lg_sl ([.int p0, .int p1, .int p2])).length) Slot.unset).toArray = ls at hl ⊢
  have hl : lv_has ls 5 [(0, .int p0), (1, .int p1), (2, .int p2)] := hl
  refine zstart (fun H hH => ?_)
  rw [← hH] at hP
  have hS : va_S A s.heap H [] := by rw [hH]; exact va_S.rf
  generalize ([] : List Loc) = locs at hS ⊢
  refine zgen (fun R Q hR hQ => ?_)
  refine lv_lconst (v := 0) hx hb dX4_joined_0 rfl ?_
  refine lv_lstore_n (lv' := [(3, .long 0), (0, .int p0), (1, .int p1), (2, .int p2)]) hx hb dX4_joined_1 rfl hl (by decide) rfl (fun ls hl => ?_)
  refine lv_iload_n hx hb dX4_joined_2 rfl (lv_at hl 1 rfl) ?_
  rcases (show p0 = 38 ∨ p0 = 42 ∨ p0 = 43 ∨ p0 = 45 ∨ p0 = 60 ∨ p0 = 61 ∨ p0 = 62 ∨ p0 = 124 ∨ (¬ p0 = 38 ∧ ¬ p0 = 42 ∧ ¬ p0 = 43 ∧ ¬ p0 = 45 ∧ ¬ p0 = 60 ∧ ¬ p0 = 61 ∧ ¬ p0 = 62 ∧ ¬ p0 = 124) from (Classical.em (p0 = 38)).elim Or.inl (fun n0 => Or.inr ((Classical.em (p0 = 42)).elim Or.inl (fun n1 => Or.inr ((Classical.em (p0 = 43)).elim Or.inl (fun n2 => Or.inr ((Classical.em (p0 = 45)).elim Or.inl (fun n3 => Or.inr ((Classical.em (p0 = 60)).elim Or.inl (fun n4 => Or.inr ((Classical.em (p0 = 61)).elim Or.inl (fun n5 => Or.inr ((Classical.em (p0 = 62)).elim Or.inl (fun n6 => Or.inr ((Classical.em (p0 = 124)).elim Or.inl (fun n7 => Or.inr (⟨n0, n1, n2, n3, n4, n5, n6, n7⟩))))))))))))))))) with s3 | s3 | s3 | s3 | s3 | s3 | s3 | s3 | ⟨n3_0, n3_1, n3_2, n3_3, n3_4, n3_5, n3_6, n3_7⟩
  · refine lv_lookup (off := 106) (tgt := 109) hx hb dX4_joined_3 (by decide) (by rw [s3]; decide) (by decide) ?_; have c3 : p0.toInt = 38 := z5 rfl (by decide) s3
    refine lv_iload_n hx hb dX4_joined_109 rfl (lv_at hl 2 rfl) ?_
    refine lv_iload_n hx hb dX4_joined_110 rfl (lv_at hl 3 rfl) ?_
    refine lv_iand hx hb dX4_joined_111 ?_
    refine lv_topi (fun v111 e111 => ?_)
    rw [hQ]
    exact W.iret (v := v111) hx hb hr (fun t ht hW => ⟨⟨v111, (), rfl, (by unfold zJc; rw [if_neg (by omega), if_neg (by omega), if_neg (by omega), if_pos (by omega)]; exact e111), trivial⟩, hS.F ht⟩) hS.2.2 dX4_joined_112
  · refine lv_lookup (off := 132) (tgt := 135) hx hb dX4_joined_3 (by decide) (by rw [s3]; decide) (by decide) ?_; have c3 : p0.toInt = 42 := z5 rfl (by decide) s3
    refine lv_iload_n hx hb dX4_joined_135 rfl (lv_at hl 2 rfl) ?_
    refine lv_i2l hx hb dX4_joined_136 rfl ?_
    refine lv_topl (fun v136 e136 => ?_)
    refine lv_iload_n hx hb dX4_joined_137 rfl (lv_at hl 3 rfl) ?_
    refine lv_i2l hx hb dX4_joined_138 rfl ?_
    refine lv_topl (fun v138 e138 => ?_)
    refine lv_lmul hx hb dX4_joined_139 ?_
    refine lv_topl (fun v139 e139 => ?_)
    refine lv_lstore_n (lv' := [(3, .long v139), (0, .int p0), (1, .int p1), (2, .int p2)]) hx hb dX4_joined_140 rfl hl (by decide) rfl (fun ls hl => ?_)
    refine lv_goto (tgt := 157) hx hb dX4_joined_141 (by decide) ?_
    refine lv_lload_n hx hb dX4_joined_157 rfl (lv_at hl 0 rfl) ?_
    refine lv_ldc2 (v := 1000000) hx hb hown (hts _ qw675) dX4_joined_158 ?_
    refine W.lcmp hx hb dX4_joined_161 ?_
    refine lv_topi (fun v161 e161 => ?_)
    refine lv_if_le (tgt := 170) hx hb dX4_joined_162 (by decide) (fun c162 => ?_) (fun c162 => ?_)
    · have c162 : v161.toInt ≤ 0 := z3 rfl (by decide) c162
      refine lv_lload_n hx hb dX4_joined_170 rfl (lv_at hl 0 rfl) ?_
      refine lv_ldc2 (v := (-1000000)) hx hb hown (hts _ qw677) dX4_joined_171 ?_
      refine W.lcmp hx hb dX4_joined_174 ?_
      refine lv_topi (fun v174 e174 => ?_)
      refine lv_if_ge (tgt := 183) hx hb dX4_joined_175 (by decide) (fun c175 => ?_) (fun c175 => ?_)
      · have c175 : 0 ≤ v174.toInt := z3 (by decide) rfl c175
        refine lv_lload_n hx hb dX4_joined_183 rfl (lv_at hl 0 rfl) ?_
        refine lv_l2i hx hb dX4_joined_184 rfl ?_
        refine lv_topi (fun v184 e184 => ?_)
        rw [hQ]
        exact W.iret (v := v184) hx hb hr (fun t ht hW => ⟨⟨v184, (), rfl, (by unfold zJc; rw [if_neg (by omega), if_neg (by omega), if_neg (by omega), if_neg (by omega), if_neg (by omega), if_neg (by omega), if_neg (by omega), if_pos (by omega)]; exact zjMd (zjM e136 e138 e139) e161 (by omega) e174 (by omega) e184), trivial⟩, hS.F ht⟩) hS.2.2 dX4_joined_185
      · have c175 : v174.toInt < 0 := z4 (by decide) rfl c175
        refine lv_ldc (v := (-1000000)) hx hb hown (hts _ qw678) dX4_joined_178 ?_
        refine lv_goto (tgt := 185) hx hb dX4_joined_180 (by decide) ?_
        have zr0 : ((-1000000) : Int32).toInt = (-1000000) := by decide
        rw [hQ]
        exact W.iret (v := ((-1000000))) hx hb hr (fun t ht hW => ⟨⟨(-1000000), (), rfl, (by unfold zJc; rw [if_neg (by omega), if_neg (by omega), if_neg (by omega), if_neg (by omega), if_neg (by omega), if_neg (by omega), if_neg (by omega), if_pos (by omega)]; exact zjLo (zjM e136 e138 e139) e161 (by omega) e174 (by omega)), trivial⟩, hS.F ht⟩) hS.2.2 dX4_joined_185
    · have c162 : 0 < v161.toInt := z4 rfl (by decide) c162
      refine lv_ldc (v := 1000000) hx hb hown (hts _ qw676) dX4_joined_165 ?_
      refine lv_goto (tgt := 185) hx hb dX4_joined_167 (by decide) ?_
      have zr0 : (1000000 : Int32).toInt = 1000000 := by decide
      rw [hQ]
      exact W.iret (v := 1000000) hx hb hr (fun t ht hW => ⟨⟨1000000, (), rfl, (by unfold zJc; rw [if_neg (by omega), if_neg (by omega), if_neg (by omega), if_neg (by omega), if_neg (by omega), if_neg (by omega), if_neg (by omega), if_pos (by omega)]; exact zjHi (zjM e136 e138 e139) e161 (by omega)), trivial⟩, hS.F ht⟩) hS.2.2 dX4_joined_185
  · refine lv_lookup (off := 114) (tgt := 117) hx hb dX4_joined_3 (by decide) (by rw [s3]; decide) (by decide) ?_; have c3 : p0.toInt = 43 := z5 rfl (by decide) s3
    refine lv_iload_n hx hb dX4_joined_117 rfl (lv_at hl 2 rfl) ?_
    refine lv_i2l hx hb dX4_joined_118 rfl ?_
    refine lv_topl (fun v118 e118 => ?_)
    refine lv_iload_n hx hb dX4_joined_119 rfl (lv_at hl 3 rfl) ?_
    refine lv_i2l hx hb dX4_joined_120 rfl ?_
    refine lv_topl (fun v120 e120 => ?_)
    refine lv_ladd hx hb dX4_joined_121 ?_
    refine lv_topl (fun v121 e121 => ?_)
    refine lv_lstore_n (lv' := [(3, .long v121), (0, .int p0), (1, .int p1), (2, .int p2)]) hx hb dX4_joined_122 rfl hl (by decide) rfl (fun ls hl => ?_)
    refine lv_goto (tgt := 157) hx hb dX4_joined_123 (by decide) ?_
    refine lv_lload_n hx hb dX4_joined_157 rfl (lv_at hl 0 rfl) ?_
    refine lv_ldc2 (v := 1000000) hx hb hown (hts _ qw675) dX4_joined_158 ?_
    refine W.lcmp hx hb dX4_joined_161 ?_
    refine lv_topi (fun v161 e161 => ?_)
    refine lv_if_le (tgt := 170) hx hb dX4_joined_162 (by decide) (fun c162 => ?_) (fun c162 => ?_)
    · have c162 : v161.toInt ≤ 0 := z3 rfl (by decide) c162
      refine lv_lload_n hx hb dX4_joined_170 rfl (lv_at hl 0 rfl) ?_
      refine lv_ldc2 (v := (-1000000)) hx hb hown (hts _ qw677) dX4_joined_171 ?_
      refine W.lcmp hx hb dX4_joined_174 ?_
      refine lv_topi (fun v174 e174 => ?_)
      refine lv_if_ge (tgt := 183) hx hb dX4_joined_175 (by decide) (fun c175 => ?_) (fun c175 => ?_)
      · have c175 : 0 ≤ v174.toInt := z3 (by decide) rfl c175
        refine lv_lload_n hx hb dX4_joined_183 rfl (lv_at hl 0 rfl) ?_
        refine lv_l2i hx hb dX4_joined_184 rfl ?_
        refine lv_topi (fun v184 e184 => ?_)
        rw [hQ]
        exact W.iret (v := v184) hx hb hr (fun t ht hW => ⟨⟨v184, (), rfl, (by unfold zJc; rw [if_neg (by omega), if_neg (by omega), if_neg (by omega), if_neg (by omega), if_neg (by omega), if_pos (by omega)]; exact zjMd (zjA e118 e120 e121) e161 (by omega) e174 (by omega) e184), trivial⟩, hS.F ht⟩) hS.2.2 dX4_joined_185
      · have c175 : v174.toInt < 0 := z4 (by decide) rfl c175
        refine lv_ldc (v := (-1000000)) hx hb hown (hts _ qw678) dX4_joined_178 ?_
        refine lv_goto (tgt := 185) hx hb dX4_joined_180 (by decide) ?_
        have zr0 : ((-1000000) : Int32).toInt = (-1000000) := by decide
        rw [hQ]
        exact W.iret (v := ((-1000000))) hx hb hr (fun t ht hW => ⟨⟨(-1000000), (), rfl, (by unfold zJc; rw [if_neg (by omega), if_neg (by omega), if_neg (by omega), if_neg (by omega), if_neg (by omega), if_pos (by omega)]; exact zjLo (zjA e118 e120 e121) e161 (by omega) e174 (by omega)), trivial⟩, hS.F ht⟩) hS.2.2 dX4_joined_185
    · have c162 : 0 < v161.toInt := z4 rfl (by decide) c162
      refine lv_ldc (v := 1000000) hx hb hown (hts _ qw676) dX4_joined_165 ?_
      refine lv_goto (tgt := 185) hx hb dX4_joined_167 (by decide) ?_
      have zr0 : (1000000 : Int32).toInt = 1000000 := by decide
      rw [hQ]
      exact W.iret (v := 1000000) hx hb hr (fun t ht hW => ⟨⟨1000000, (), rfl, (by unfold zJc; rw [if_neg (by omega), if_neg (by omega), if_neg (by omega), if_neg (by omega), if_neg (by omega), if_pos (by omega)]; exact zjHi (zjA e118 e120 e121) e161 (by omega)), trivial⟩, hS.F ht⟩) hS.2.2 dX4_joined_185
  · refine lv_lookup (off := 123) (tgt := 126) hx hb dX4_joined_3 (by decide) (by rw [s3]; decide) (by decide) ?_; have c3 : p0.toInt = 45 := z5 rfl (by decide) s3
    refine lv_iload_n hx hb dX4_joined_126 rfl (lv_at hl 2 rfl) ?_
    refine lv_i2l hx hb dX4_joined_127 rfl ?_
    refine lv_topl (fun v127 e127 => ?_)
    refine lv_iload_n hx hb dX4_joined_128 rfl (lv_at hl 3 rfl) ?_
    refine lv_i2l hx hb dX4_joined_129 rfl ?_
    refine lv_topl (fun v129 e129 => ?_)
    refine lv_lsub hx hb dX4_joined_130 ?_
    refine lv_topl (fun v130 e130 => ?_)
    refine lv_lstore_n (lv' := [(3, .long v130), (0, .int p0), (1, .int p1), (2, .int p2)]) hx hb dX4_joined_131 rfl hl (by decide) rfl (fun ls hl => ?_)
    refine lv_goto (tgt := 157) hx hb dX4_joined_132 (by decide) ?_
    refine lv_lload_n hx hb dX4_joined_157 rfl (lv_at hl 0 rfl) ?_
    refine lv_ldc2 (v := 1000000) hx hb hown (hts _ qw675) dX4_joined_158 ?_
    refine W.lcmp hx hb dX4_joined_161 ?_
    refine lv_topi (fun v161 e161 => ?_)
    refine lv_if_le (tgt := 170) hx hb dX4_joined_162 (by decide) (fun c162 => ?_) (fun c162 => ?_)
    · have c162 : v161.toInt ≤ 0 := z3 rfl (by decide) c162
      refine lv_lload_n hx hb dX4_joined_170 rfl (lv_at hl 0 rfl) ?_
      refine lv_ldc2 (v := (-1000000)) hx hb hown (hts _ qw677) dX4_joined_171 ?_
      refine W.lcmp hx hb dX4_joined_174 ?_
      refine lv_topi (fun v174 e174 => ?_)
      refine lv_if_ge (tgt := 183) hx hb dX4_joined_175 (by decide) (fun c175 => ?_) (fun c175 => ?_)
      · have c175 : 0 ≤ v174.toInt := z3 (by decide) rfl c175
        refine lv_lload_n hx hb dX4_joined_183 rfl (lv_at hl 0 rfl) ?_
        refine lv_l2i hx hb dX4_joined_184 rfl ?_
        refine lv_topi (fun v184 e184 => ?_)
        rw [hQ]
        exact W.iret (v := v184) hx hb hr (fun t ht hW => ⟨⟨v184, (), rfl, (by unfold zJc; rw [if_neg (by omega), if_neg (by omega), if_neg (by omega), if_neg (by omega), if_neg (by omega), if_neg (by omega), if_pos (by omega)]; exact zjMd (zjS e127 e129 e130) e161 (by omega) e174 (by omega) e184), trivial⟩, hS.F ht⟩) hS.2.2 dX4_joined_185
      · have c175 : v174.toInt < 0 := z4 (by decide) rfl c175
        refine lv_ldc (v := (-1000000)) hx hb hown (hts _ qw678) dX4_joined_178 ?_
        refine lv_goto (tgt := 185) hx hb dX4_joined_180 (by decide) ?_
        have zr0 : ((-1000000) : Int32).toInt = (-1000000) := by decide
        rw [hQ]
        exact W.iret (v := ((-1000000))) hx hb hr (fun t ht hW => ⟨⟨(-1000000), (), rfl, (by unfold zJc; rw [if_neg (by omega), if_neg (by omega), if_neg (by omega), if_neg (by omega), if_neg (by omega), if_neg (by omega), if_pos (by omega)]; exact zjLo (zjS e127 e129 e130) e161 (by omega) e174 (by omega)), trivial⟩, hS.F ht⟩) hS.2.2 dX4_joined_185
    · have c162 : 0 < v161.toInt := z4 rfl (by decide) c162
      refine lv_ldc (v := 1000000) hx hb hown (hts _ qw676) dX4_joined_165 ?_
      refine lv_goto (tgt := 185) hx hb dX4_joined_167 (by decide) ?_
      have zr0 : (1000000 : Int32).toInt = 1000000 := by decide
      rw [hQ]
      exact W.iret (v := 1000000) hx hb hr (fun t ht hW => ⟨⟨1000000, (), rfl, (by unfold zJc; rw [if_neg (by omega), if_neg (by omega), if_neg (by omega), if_neg (by omega), if_neg (by omega), if_neg (by omega), if_pos (by omega)]; exact zjHi (zjS e127 e129 e130) e161 (by omega)), trivial⟩, hS.F ht⟩) hS.2.2 dX4_joined_185
  · refine lv_lookup (off := 84) (tgt := 87) hx hb dX4_joined_3 (by decide) (by rw [s3]; decide) (by decide) ?_; have c3 : p0.toInt = 60 := z5 rfl (by decide) s3
    refine lv_iload_n hx hb dX4_joined_87 rfl (lv_at hl 2 rfl) ?_
    refine lv_iload_n hx hb dX4_joined_88 rfl (lv_at hl 3 rfl) ?_
    refine lv_icmp_ge (tgt := 96) hx hb dX4_joined_89 (by decide) (fun c89 => ?_) (fun c89 => ?_)
    · have c89 : p2.toInt ≤ p1.toInt := z3 rfl rfl c89
      refine lv_iconst (v := 0) hx hb dX4_joined_96 (by decide) ?_
      have zr0 : (0 : Int32).toInt = 0 := by decide
      rw [hQ]
      exact W.iret (v := 0) hx hb hr (fun t ht hW => ⟨⟨0, (), rfl, (by unfold zJc; rw [if_neg (by omega), if_pos (by omega), if_neg (by omega)]), trivial⟩, hS.F ht⟩) hS.2.2 dX4_joined_97
    · have c89 : p1.toInt < p2.toInt := z4 rfl rfl c89
      refine lv_iconst (v := 1) hx hb dX4_joined_92 (by decide) ?_
      refine lv_goto (tgt := 97) hx hb dX4_joined_93 (by decide) ?_
      have zr0 : (1 : Int32).toInt = 1 := by decide
      rw [hQ]
      exact W.iret (v := 1) hx hb hr (fun t ht hW => ⟨⟨1, (), rfl, (by unfold zJc; rw [if_neg (by omega), if_pos (by omega), if_pos (by omega)]), trivial⟩, hS.F ht⟩) hS.2.2 dX4_joined_97
  · refine lv_lookup (off := 73) (tgt := 76) hx hb dX4_joined_3 (by decide) (by rw [s3]; decide) (by decide) ?_; have c3 : p0.toInt = 61 := z5 rfl (by decide) s3
    refine lv_iload_n hx hb dX4_joined_76 rfl (lv_at hl 2 rfl) ?_
    refine lv_iload_n hx hb dX4_joined_77 rfl (lv_at hl 3 rfl) ?_
    refine lv_icmp_ne (tgt := 85) hx hb dX4_joined_78 (by decide) (fun c78 => ?_) (fun c78 => ?_)
    · have c78 : ¬ p1.toInt = p2.toInt := z6 rfl rfl c78
      refine lv_iconst (v := 0) hx hb dX4_joined_85 (by decide) ?_
      have zr0 : (0 : Int32).toInt = 0 := by decide
      rw [hQ]
      exact W.iret (v := 0) hx hb hr (fun t ht hW => ⟨⟨0, (), rfl, (by unfold zJc; rw [if_pos (by omega), if_neg (by omega)]), trivial⟩, hS.F ht⟩) hS.2.2 dX4_joined_86
    · have c78 : p1.toInt = p2.toInt := z5 rfl rfl c78
      refine lv_iconst (v := 1) hx hb dX4_joined_81 (by decide) ?_
      refine lv_goto (tgt := 86) hx hb dX4_joined_82 (by decide) ?_
      have zr0 : (1 : Int32).toInt = 1 := by decide
      rw [hQ]
      exact W.iret (v := 1) hx hb hr (fun t ht hW => ⟨⟨1, (), rfl, (by unfold zJc; rw [if_pos (by omega), if_pos (by omega)]), trivial⟩, hS.F ht⟩) hS.2.2 dX4_joined_86
  · refine lv_lookup (off := 95) (tgt := 98) hx hb dX4_joined_3 (by decide) (by rw [s3]; decide) (by decide) ?_; have c3 : p0.toInt = 62 := z5 rfl (by decide) s3
    refine lv_iload_n hx hb dX4_joined_98 rfl (lv_at hl 2 rfl) ?_
    refine lv_iload_n hx hb dX4_joined_99 rfl (lv_at hl 3 rfl) ?_
    refine lv_icmp_le (tgt := 107) hx hb dX4_joined_100 (by decide) (fun c100 => ?_) (fun c100 => ?_)
    · have c100 : p1.toInt ≤ p2.toInt := z3 rfl rfl c100
      refine lv_iconst (v := 0) hx hb dX4_joined_107 (by decide) ?_
      have zr0 : (0 : Int32).toInt = 0 := by decide
      rw [hQ]
      exact W.iret (v := 0) hx hb hr (fun t ht hW => ⟨⟨0, (), rfl, (by unfold zJc; rw [if_neg (by omega), if_neg (by omega), if_pos (by omega), if_neg (by omega)]), trivial⟩, hS.F ht⟩) hS.2.2 dX4_joined_108
    · have c100 : p2.toInt < p1.toInt := z4 rfl rfl c100
      refine lv_iconst (v := 1) hx hb dX4_joined_103 (by decide) ?_
      refine lv_goto (tgt := 108) hx hb dX4_joined_104 (by decide) ?_
      have zr0 : (1 : Int32).toInt = 1 := by decide
      rw [hQ]
      exact W.iret (v := 1) hx hb hr (fun t ht hW => ⟨⟨1, (), rfl, (by unfold zJc; rw [if_neg (by omega), if_neg (by omega), if_pos (by omega), if_pos (by omega)]), trivial⟩, hS.F ht⟩) hS.2.2 dX4_joined_108
  · refine lv_lookup (off := 110) (tgt := 113) hx hb dX4_joined_3 (by decide) (by rw [s3]; decide) (by decide) ?_; have c3 : p0.toInt = 124 := z5 rfl (by decide) s3
    refine lv_iload_n hx hb dX4_joined_113 rfl (lv_at hl 2 rfl) ?_
    refine lv_iload_n hx hb dX4_joined_114 rfl (lv_at hl 3 rfl) ?_
    refine lv_ior hx hb dX4_joined_115 ?_
    refine lv_topi (fun v115 e115 => ?_)
    rw [hQ]
    exact W.iret (v := v115) hx hb hr (fun t ht hW => ⟨⟨v115, (), rfl, (by unfold zJc; rw [if_neg (by omega), if_neg (by omega), if_neg (by omega), if_neg (by omega), if_pos (by omega)]; exact e115), trivial⟩, hS.F ht⟩) hS.2.2 dX4_joined_116
  · refine lv_lookup (off := 141) (tgt := 144) hx hb dX4_joined_3 (by decide) ((lv_osw n3_0 (by decide)).trans ((lv_osw n3_1 (by decide)).trans ((lv_osw n3_2 (by decide)).trans ((lv_osw n3_3 (by decide)).trans ((lv_osw n3_4 (by decide)).trans ((lv_osw n3_5 (by decide)).trans ((lv_osw n3_6 (by decide)).trans ((lv_osw n3_7 (by decide)).trans (rfl))))))))) (by decide) ?_; have c3_0 : ¬ p0.toInt = 38 := z6 rfl (by decide) n3_0; have c3_1 : ¬ p0.toInt = 42 := z6 rfl (by decide) n3_1; have c3_2 : ¬ p0.toInt = 43 := z6 rfl (by decide) n3_2; have c3_3 : ¬ p0.toInt = 45 := z6 rfl (by decide) n3_3; have c3_4 : ¬ p0.toInt = 60 := z6 rfl (by decide) n3_4; have c3_5 : ¬ p0.toInt = 61 := z6 rfl (by decide) n3_5; have c3_6 : ¬ p0.toInt = 62 := z6 rfl (by decide) n3_6; have c3_7 : ¬ p0.toInt = 124 := z6 rfl (by decide) n3_7
    refine lv_iload_n hx hb dX4_joined_144 rfl (lv_at hl 3 rfl) ?_
    refine lv_if_ne (tgt := 152) hx hb dX4_joined_145 (by decide) (fun c145 => ?_) (fun c145 => ?_)
    · have c145 : ¬ p2.toInt = 0 := z6 rfl (by decide) c145
      refine lv_iload_n hx hb dX4_joined_152 rfl (lv_at hl 2 rfl) ?_
      refine lv_iload_n hx hb dX4_joined_153 rfl (lv_at hl 3 rfl) ?_
      refine lv_idiv hx hb dX4_joined_154 (z0 (by omega)) ?_
      refine lv_topi (fun v154 e154 => ?_)
      refine lv_i2l hx hb dX4_joined_155 rfl ?_
      refine lv_topl (fun v155 e155 => ?_)
      refine lv_lstore_n (lv' := [(3, .long v155), (0, .int p0), (1, .int p1), (2, .int p2)]) hx hb dX4_joined_156 rfl hl (by decide) rfl (fun ls hl => ?_)
      refine lv_lload_n hx hb dX4_joined_157 rfl (lv_at hl 0 rfl) ?_
      refine lv_ldc2 (v := 1000000) hx hb hown (hts _ qw675) dX4_joined_158 ?_
      refine W.lcmp hx hb dX4_joined_161 ?_
      refine lv_topi (fun v161 e161 => ?_)
      refine lv_if_le (tgt := 170) hx hb dX4_joined_162 (by decide) (fun c162 => ?_) (fun c162 => ?_)
      · have c162 : v161.toInt ≤ 0 := z3 rfl (by decide) c162
        refine lv_lload_n hx hb dX4_joined_170 rfl (lv_at hl 0 rfl) ?_
        refine lv_ldc2 (v := (-1000000)) hx hb hown (hts _ qw677) dX4_joined_171 ?_
        refine W.lcmp hx hb dX4_joined_174 ?_
        refine lv_topi (fun v174 e174 => ?_)
        refine lv_if_ge (tgt := 183) hx hb dX4_joined_175 (by decide) (fun c175 => ?_) (fun c175 => ?_)
        · have c175 : 0 ≤ v174.toInt := z3 (by decide) rfl c175
          refine lv_lload_n hx hb dX4_joined_183 rfl (lv_at hl 0 rfl) ?_
          refine lv_l2i hx hb dX4_joined_184 rfl ?_
          refine lv_topi (fun v184 e184 => ?_)
          rw [hQ]
          exact W.iret (v := v184) hx hb hr (fun t ht hW => ⟨⟨v184, (), rfl, (by unfold zJc; rw [if_neg (by omega), if_neg (by omega), if_neg (by omega), if_neg (by omega), if_neg (by omega), if_neg (by omega), if_neg (by omega), if_neg (by omega), if_neg (by omega)]; exact zjMd ((zi2l e155).trans (by rw [e154])) e161 (by omega) e174 (by omega) e184), trivial⟩, hS.F ht⟩) hS.2.2 dX4_joined_185
        · have c175 : v174.toInt < 0 := z4 (by decide) rfl c175
          refine lv_ldc (v := (-1000000)) hx hb hown (hts _ qw678) dX4_joined_178 ?_
          refine lv_goto (tgt := 185) hx hb dX4_joined_180 (by decide) ?_
          have zr0 : ((-1000000) : Int32).toInt = (-1000000) := by decide
          rw [hQ]
          exact W.iret (v := ((-1000000))) hx hb hr (fun t ht hW => ⟨⟨(-1000000), (), rfl, (by unfold zJc; rw [if_neg (by omega), if_neg (by omega), if_neg (by omega), if_neg (by omega), if_neg (by omega), if_neg (by omega), if_neg (by omega), if_neg (by omega), if_neg (by omega)]; exact zjLo ((zi2l e155).trans (by rw [e154])) e161 (by omega) e174 (by omega)), trivial⟩, hS.F ht⟩) hS.2.2 dX4_joined_185
      · have c162 : 0 < v161.toInt := z4 rfl (by decide) c162
        refine lv_ldc (v := 1000000) hx hb hown (hts _ qw676) dX4_joined_165 ?_
        refine lv_goto (tgt := 185) hx hb dX4_joined_167 (by decide) ?_
        have zr0 : (1000000 : Int32).toInt = 1000000 := by decide
        rw [hQ]
        exact W.iret (v := 1000000) hx hb hr (fun t ht hW => ⟨⟨1000000, (), rfl, (by unfold zJc; rw [if_neg (by omega), if_neg (by omega), if_neg (by omega), if_neg (by omega), if_neg (by omega), if_neg (by omega), if_neg (by omega), if_neg (by omega), if_neg (by omega)]; exact zjHi ((zi2l e155).trans (by rw [e154])) e161 (by omega)), trivial⟩, hS.F ht⟩) hS.2.2 dX4_joined_185
    · have c145 : p2.toInt = 0 := z5 rfl (by decide) c145
      refine lv_lconst (v := 0) hx hb dX4_joined_148 rfl ?_
      refine lv_goto (tgt := 156) hx hb dX4_joined_149 (by decide) ?_
      refine lv_lstore_n (lv' := [(3, .long 0), (0, .int p0), (1, .int p1), (2, .int p2)]) hx hb dX4_joined_156 rfl hl (by decide) rfl (fun ls hl => ?_)
      refine lv_lload_n hx hb dX4_joined_157 rfl (lv_at hl 0 rfl) ?_
      refine lv_ldc2 (v := 1000000) hx hb hown (hts _ qw675) dX4_joined_158 ?_
      refine W.lcmp hx hb dX4_joined_161 ?_
      refine lv_topi (fun v161 e161 => ?_)
      refine lv_if_le (tgt := 170) hx hb dX4_joined_162 (by decide) (fun c162 => ?_) (fun c162 => ?_)
      · have c162 : v161.toInt ≤ 0 := z3 rfl (by decide) c162
        refine lv_lload_n hx hb dX4_joined_170 rfl (lv_at hl 0 rfl) ?_
        refine lv_ldc2 (v := (-1000000)) hx hb hown (hts _ qw677) dX4_joined_171 ?_
        refine W.lcmp hx hb dX4_joined_174 ?_
        refine lv_topi (fun v174 e174 => ?_)
        refine lv_if_ge (tgt := 183) hx hb dX4_joined_175 (by decide) (fun c175 => ?_) (fun c175 => ?_)
        · have c175 : 0 ≤ v174.toInt := z3 (by decide) rfl c175
          refine lv_lload_n hx hb dX4_joined_183 rfl (lv_at hl 0 rfl) ?_
          refine lv_l2i hx hb dX4_joined_184 rfl ?_
          refine lv_topi (fun v184 e184 => ?_)
          rw [hQ]
          exact W.iret (v := v184) hx hb hr (fun t ht hW => ⟨⟨v184, (), rfl, (by unfold zJc; rw [if_neg (by omega), if_neg (by omega), if_neg (by omega), if_neg (by omega), if_neg (by omega), if_neg (by omega), if_neg (by omega), if_neg (by omega), if_pos (by omega)]; exact zjMd (by decide) e161 (by omega) e174 (by omega) e184), trivial⟩, hS.F ht⟩) hS.2.2 dX4_joined_185
        · have c175 : v174.toInt < 0 := z4 (by decide) rfl c175
          refine lv_ldc (v := (-1000000)) hx hb hown (hts _ qw678) dX4_joined_178 ?_
          refine lv_goto (tgt := 185) hx hb dX4_joined_180 (by decide) ?_
          have zr0 : ((-1000000) : Int32).toInt = (-1000000) := by decide
          rw [hQ]
          exact W.iret (v := ((-1000000))) hx hb hr (fun t ht hW => ⟨⟨(-1000000), (), rfl, (by unfold zJc; rw [if_neg (by omega), if_neg (by omega), if_neg (by omega), if_neg (by omega), if_neg (by omega), if_neg (by omega), if_neg (by omega), if_neg (by omega), if_pos (by omega)]; exact zjLo (by decide) e161 (by omega) e174 (by omega)), trivial⟩, hS.F ht⟩) hS.2.2 dX4_joined_185
      · have c162 : 0 < v161.toInt := z4 rfl (by decide) c162
        refine lv_ldc (v := 1000000) hx hb hown (hts _ qw676) dX4_joined_165 ?_
        refine lv_goto (tgt := 185) hx hb dX4_joined_167 (by decide) ?_
        have zr0 : (1000000 : Int32).toInt = 1000000 := by decide
        rw [hQ]
        exact W.iret (v := 1000000) hx hb hr (fun t ht hW => ⟨⟨1000000, (), rfl, (by unfold zJc; rw [if_neg (by omega), if_neg (by omega), if_neg (by omega), if_neg (by omega), if_neg (by omega), if_neg (by omega), if_neg (by omega), if_neg (by omega), if_pos (by omega)]; exact zjHi (by decide) e161 (by omega)), trivial⟩, hS.F ht⟩) hS.2.2 dX4_joined_185
set_option maxHeartbeats 4000000 in
set_option maxRecDepth 100000 in
theorem g_X4_answer (l : Launch) (dC : Nat → ClassId) (dI : Nat → Nat → Nat) (cI cJ : ClassId) (h0 : Nat) (aL : Nat) (aK : Nat) (lS : Nat) (fS : Nat → Int32) (lk : Nat) (fL : Nat → Int32) (fK : Nat → Int32) (sz : Nat)  (hlk : lk ≤ 241) (ci_fS_zSt : zSt fS)  : Met l yX4_answer (.code yX4_answer cX4_answer 8 (some .int) :: wA) ({ frames := 1, cells := 0, slots := 0, locals := 24 }) (zP (dC, dI) [(cI, .int), (cJ, .long)] [.ref h0, .ref aL, .ref aK] sz [(h0, .inr (4, [.ref lS])), (lS, .inl (cI, lk, .inl fS)), (aL, .inl (cI, 6, .inl fL)), (aK, .inl (cI, 32, .inl fK))]) (va_Qi (fun (r : Int32) (u : (Nat → Int32)) => (∀ tk : List (Int × Int), zTok fS lk tk → r = cRun fL tk false [])) (fun (u : (Nat → Int32)) (t : State) => va_P (dC, dI) vwCl [(h0, .inr (4, [.ref lS])), (lS, .inl (cI, lk, .inl fS)), (aL, .inl (cI, 6, .inl fL)), (aK, .inl (cI, 32, .inl u))] t.heap ∧ va_D (va_A [(h0, .inr (4, [.ref lS])), (lS, .inl (cI, lk, .inl fS)), (aL, .inl (cI, 6, .inl fL)), (aK, .inl (cI, 32, .inl fK))] sz) [(h0, .inr (4, [.ref lS])), (lS, .inl (cI, lk, .inl fS)), (aL, .inl (cI, 6, .inl fL)), (aK, .inl (cI, 32, .inl u))]) (va_A [(h0, .inr (4, [.ref lS])), (lS, .inl (cI, lk, .inl fS)), (aL, .inl (cI, 6, .inl fL)), (aK, .inl (cI, 32, .inl fK))] sz)) 0 0 (va_A [(h0, .inr (4, [.ref lS])), (lS, .inl (cI, lk, .inl fS)), (aL, .inl (cI, 6, .inl fL)), (aK, .inl (cI, 32, .inl fK))] sz) := by
  refine Met.ofW (cc := cX4_answer) (maxL := 8) (ret := (some .int)) (by decide) rfl ?_
  intro p e s m args below meth c s₁ B hml hv
  obtain ⟨hargs, hsz, hP, hK, hT⟩ := hv
  have hx := B.exec
  have hb := B.bytes
  have hr := B.returns
  have hts : ∀ w ∈ wA, w.before args s = true := fun w h => atoms_spec (ws := .code yX4_answer cX4_answer 8 (some .int) :: wA) B.pre w (List.mem_cons_of_mem _ h)
  have hown : s.vm.findClass RX4 = some m.cls := findClass_of_methodNamed B.named
  have hlocks := B.notSynchronized
  subst hsz
  have hD := hT.self (sz := s.heap.size)
  generalize hAe : va_A [(h0, .inr (4, [.ref lS])), (lS, .inl (cI, lk, .inl fS)), (aL, .inl (cI, 6, .inl fL)), (aK, .inl (cI, 32, .inl fK))] s.heap.size = A at hD ⊢
  have hA : ∀ q : Nat, s.heap.size ≤ q → A q := fun q h => by rw [← hAe]; exact Or.inr h
  have hl := lv_entry ([.ref h0, .ref aL, .ref aK]) (n := 8) (Nat.le_of_ble_eq_true rfl)
  rw [show entryFrame m args 8 = entryFrame m ([.ref h0, .ref aL, .ref aK] : List Value).toArray 8 by rw [hargs], lg_entry_eq]
  generalize (lg_sl ([.ref h0, .ref aL, .ref aK]) ++ List.replicate (8 - (lg_sl ([.ref h0, .ref aL, .ref aK])).length) Slot.unset).toArray = ls at hl ⊢
  have hl : lv_has ls 8 [(0, .ref h0), (1, .ref aL), (2, .ref aK)] := hl
  refine zstart (fun H hH => ?_)
  rw [← hH] at hP
  have hS : va_S A s.heap H [] := by rw [hH]; exact va_S.rf
  generalize ([] : List Loc) = locs at hS ⊢
  refine zgen (fun R Q hR hQ => ?_)
  refine lv_iconst (v := 0) hx hb dX4_answer_0 (by decide) ?_
  refine lv_istore_n (lv' := [(3, .int 0), (0, .ref h0), (1, .ref aL), (2, .ref aK)]) hx hb dX4_answer_1 rfl hl (by decide) rfl (fun ls hl => ?_)
  refine lv_iconst (v := 0) hx hb dX4_answer_2 (by decide) ?_
  refine lv_istore (lv' := [(4, .int 0), (3, .int 0), (0, .ref h0), (1, .ref aL), (2, .ref aK)]) hx hb dX4_answer_3 hl (by decide) rfl (fun ls hl => ?_)
  refine lv_iconst (v := 0) hx hb dX4_answer_5 (by decide) ?_
  have J8 : ∀ (n : Nat) (m8_A_aK : Nat → Int32) (m8_L_3 : Int32) (m8_L_4 : Int32) (m8_L_5 : Int32), (0 ≤ m8_L_3.toInt ∧ m8_L_3.toInt ≤ 32) → (0 ≤ m8_L_4.toInt ∧ m8_L_4.toInt ≤ 1) → (0 ≤ m8_L_5.toInt ∧ m8_L_5.toInt ≤ 241) → (∀ tk : List (Int × Int), zTok fS lk tk → zAns fL tk m8_A_aK m8_L_3 m8_L_4 m8_L_5) → (242 - m8_L_5.toInt).toNat = n → ∀ (H : Heap) (locs : List Loc) (ls : Array Slot), va_P (dC, dI) vwCl [(h0, .inr (4, [.ref lS])), (lS, .inl (cI, lk, .inl fS)), (aL, .inl (cI, 6, .inl fL)), (aK, .inl (cI, 32, .inl m8_A_aK))] H → va_D A [(h0, .inr (4, [.ref lS])), (lS, .inl (cI, lk, .inl fS)), (aL, .inl (cI, 6, .inl fL)), (aK, .inl (cI, 32, .inl m8_A_aK))] → va_S A s.heap H locs → lv_has ls 8 [(5, .int m8_L_5), (4, .int m8_L_4), (3, .int m8_L_3), (0, .ref h0), (1, .ref aL), (2, .ref aK)] → W p l e R s m args below meth c H locs 0 0 Q (F0 m 8 ls []) := by
    intro n8
    induction n8 using Nat.strongRecOn with
    | _ n8 ih8 =>
      intro m8_A_aK m8_L_3 m8_L_4 m8_L_5 jf8_0 jf8_1 jf8_2 jv8_0 hmu8 H locs ls hP hD hS hl
      refine lv_iload hx hb dX4_answer_8 (lv_at hl 0 rfl) ?_
      refine lv_aload_n hx hb dX4_answer_10 rfl (lv_at hl 3 rfl) ?_
      refine va_get (D := (dC, dI)) (ci := 4) (v := .ref lS) (C := RX4) (T := TX4) (N := 1) hx hb hts iX4 hown hK hP 0 rfl rfl 0 (by decide) (hts _ qw576) (fun _ h9 => h9) rfl dX4_answer_11 ?_
      refine va_alen (v := nI lk) hx hb hK hP 1 0 rfl rfl rfl dX4_answer_14 ?_
      refine lv_topi (fun v14 e14 => ?_)
      have i14 : v14.toInt = (lk : Int) := by rw [e14]; exact nI_toInt (by omega)
      refine lv_icmp_ge (tgt := 211) hx hb dX4_answer_15 (by decide) (fun c15 => ?_) (fun c15 => ?_)
      · have c15 : v14.toInt ≤ m8_L_5.toInt := z3 rfl rfl c15
        refine lv_iconst (v := 0) hx hb dX4_answer_211 (by decide) ?_
        have zr0 : (0 : Int32).toInt = 0 := by decide
        rw [hQ]
        exact W.iret (v := 0) hx hb hr (fun t ht hW => ⟨⟨0, m8_A_aK, rfl, (fun tk ht => zAnsE (jv8_0 tk ht) ht (by omega)), ⟨by rw [ht]; exact hP, hD⟩⟩, hS.F ht⟩) hS.2.2 dX4_answer_212
      · have c15 : m8_L_5.toInt < v14.toInt := z4 rfl rfl c15
        refine lv_aload_n hx hb dX4_answer_18 rfl (lv_at hl 3 rfl) ?_
        refine va_get (D := (dC, dI)) (ci := 4) (v := .ref lS) (C := RX4) (T := TX4) (N := 1) hx hb hts iX4 hown hK hP 0 rfl rfl 0 (by decide) (hts _ qw576) (fun _ h9 => h9) rfl dX4_answer_19 ?_
        refine lv_iload hx hb dX4_answer_22 (lv_at hl 0 rfl) ?_
        refine va_iald hx hb hK hP 1 0 rfl rfl (vp_in_iff.mpr ⟨by omega, by omega⟩) dX4_answer_24 ?_
        refine lv_topi (fun v24 e24 => ?_)
        refine lv_sipush (v := 255) hx hb dX4_answer_25 (by decide) ?_
        refine lv_iand hx hb dX4_answer_28 ?_
        refine lv_topi (fun v28 e28 => ?_)
        have i28 : 0 ≤ v28.toInt ∧ v28.toInt ≤ 255 := zandr e28 (by decide) (by decide)
        refine lv_istore (lv' := [(6, .int v28), (5, .int m8_L_5), (4, .int m8_L_4), (3, .int m8_L_3), (0, .ref h0), (1, .ref aL), (2, .ref aK)]) hx hb dX4_answer_29 hl (by decide) rfl (fun ls hl => ?_)
        refine lv_aload_n hx hb dX4_answer_31 rfl (lv_at hl 4 rfl) ?_
        refine va_get (D := (dC, dI)) (ci := 4) (v := .ref lS) (C := RX4) (T := TX4) (N := 1) hx hb hts iX4 hown hK hP 0 rfl rfl 0 (by decide) (hts _ qw576) (fun _ h9 => h9) rfl dX4_answer_32 ?_
        refine lv_iload hx hb dX4_answer_35 (lv_at hl 1 rfl) ?_
        refine va_iald hx hb hK hP 1 0 rfl rfl (vp_in_iff.mpr ⟨by omega, by omega⟩) dX4_answer_37 ?_
        refine lv_topi (fun v37 e37 => ?_)
        refine lv_bipush (v := 8) hx hb dX4_answer_38 (by decide) ?_
        refine lv_ishr hx hb dX4_answer_40 ?_
        refine lv_topi (fun v40 e40 => ?_)
        refine lv_istore (lv' := [(7, .int v40), (6, .int v28), (5, .int m8_L_5), (4, .int m8_L_4), (3, .int m8_L_3), (0, .ref h0), (1, .ref aL), (2, .ref aK)]) hx hb dX4_answer_41 hl (by decide) rfl (fun ls hl => ?_)
        refine lv_iload hx hb dX4_answer_43 (lv_at hl 3 rfl) ?_
        refine lv_if_eq (tgt := 65) hx hb dX4_answer_45 (by decide) (fun c45 => ?_) (fun c45 => ?_)
        · have c45 : m8_L_4.toInt = 0 := z5 rfl (by decide) c45
          refine lv_iload hx hb dX4_answer_65 (lv_at hl 1 rfl) ?_
          refine lv_iconst (v := 1) hx hb dX4_answer_67 (by decide) ?_
          refine lv_icmp_eq (tgt := 77) hx hb dX4_answer_68 (by decide) (fun c68 => ?_) (fun c68 => ?_)
          · have c68 : v28.toInt = 1 := z5 rfl (by decide) c68
            refine lv_iload_n hx hb dX4_answer_77 rfl (lv_at hl 4 rfl) ?_
            refine lv_aload_n hx hb dX4_answer_78 rfl (lv_at hl 7 rfl) ?_
            refine va_alen (v := 32) hx hb hK hP 3 0 rfl rfl rfl dX4_answer_79 ?_
            refine lv_icmp_lt (tgt := 85) hx hb dX4_answer_80 (by decide) (fun c80 => ?_) (fun c80 => ?_)
            · have c80 : m8_L_3.toInt < 32 := z1 rfl (by decide) c80
              refine lv_aload_n hx hb dX4_answer_85 rfl (lv_at hl 7 rfl) ?_
              refine lv_iload_n hx hb dX4_answer_86 rfl (lv_at hl 4 rfl) ?_
              refine lv_iload hx hb dX4_answer_87 (lv_at hl 1 rfl) ?_
              refine lv_iconst (v := 1) hx hb dX4_answer_89 (by decide) ?_
              refine lv_icmp_ne (tgt := 98) hx hb dX4_answer_90 (by decide) (fun c90 => by exfalso; have c90 : ¬ v28.toInt = 1 := z6 rfl (by decide) c90; omega) (fun c90 => ?_)
              have c90 : v28.toInt = 1 := z5 rfl (by decide) c90
              refine lv_iload hx hb dX4_answer_93 (lv_at hl 0 rfl) ?_
              refine lv_goto (tgt := 102) hx hb dX4_answer_95 (by decide) ?_
              refine va_iast hx hb hK hP hD hS 3 0 rfl rfl (vp_in_iff.mpr ⟨by omega, by omega⟩) dX4_answer_102 (fun H locs hP9 hD9 hS9 => ?_)
              clear hP hD hS
              obtain ⟨v102_f, e102⟩ : ∃ g : Nat → Int32, g = upd m8_A_aK (m8_L_3).toNatClampNeg v40 := ⟨_, rfl⟩
              rw [← e102] at hP9 hD9
              obtain ⟨hP, hD⟩ := zst (wX := [(h0, .inr (4, [.ref lS])), (lS, .inl (cI, lk, .inl fS)), (aL, .inl (cI, 6, .inl fL)), (aK, .inl (cI, 32, .inl v102_f))]) hP9 hD9 rfl
              have hS := hS9
              clear hP9 hD9 hS9
              obtain ⟨v103, e103⟩ : ∃ y : Int32, y = m8_L_3 + Int32.ofInt (1) := ⟨_, rfl⟩
              refine lv_iinc (v := v103) (lv' := [(3, .int v103), (7, .int v40), (6, .int v28), (5, .int m8_L_5), (4, .int m8_L_4), (0, .ref h0), (1, .ref aL), (2, .ref aK)]) hx hb dX4_answer_103 hl (k := 4) rfl e103.symm (by decide) rfl (fun ls hl => ?_)
              have i103 : v103.toInt = m8_L_3.toInt + 1 := zaddI e103 (by decide) (by omega) (by omega)
              refine lv_goto (tgt := 205) hx hb dX4_answer_106 (by decide) ?_
              obtain ⟨v205, e205⟩ : ∃ y : Int32, y = m8_L_5 + Int32.ofInt (1) := ⟨_, rfl⟩
              refine lv_iinc (v := v205) (lv' := [(5, .int v205), (3, .int v103), (7, .int v40), (6, .int v28), (4, .int m8_L_4), (0, .ref h0), (1, .ref aL), (2, .ref aK)]) hx hb dX4_answer_205 hl (k := 3) rfl e205.symm (by decide) rfl (fun ls hl => ?_)
              have i205 : v205.toInt = m8_L_5.toInt + 1 := zaddI e205 (by decide) (by omega) (by omega)
              refine lv_goto (tgt := 8) hx hb dX4_answer_208 (by decide) ?_
              exact ih8 _ (by omega) v102_f v103 m8_L_4 v205 (by omega) jf8_1 (by omega) (by first | exact fun tk ht => zAnsK (jv8_0 tk ht) ht (by omega) (by omega) e24 e28 e37 e40 (by omega) (by omega) (by omega) | exact fun tk ht => zAnsP (jv8_0 tk ht) ht (by omega) (by omega) e24 e28 e37 e40 (by omega) (Or.inl ⟨by omega, rfl⟩) (by omega) e102 (by omega) (by omega) | exact fun tk ht => zAnsP (jv8_0 tk ht) ht (by omega) (by omega) e24 e28 e37 e40 (by omega) (Or.inr ⟨by omega, e101⟩) (by omega) e102 (by omega) (by omega) | exact fun tk ht => zAnsC (jv8_0 tk ht) ht (by omega) (by omega) e24 e28 e37 e40 (by omega) (by omega) (by omega) (by omega) e141 (by omega) (by omega) | exact fun tk ht => zAnsN (jv8_0 tk ht) ht (by omega) (by omega) e24 e28 e37 e40 (by omega) (by omega) (by omega) (by omega) (by omega) e171 e172 e173 (by omega) | exact fun tk ht => zAnsO (jv8_0 tk ht) ht (by omega) (by omega) e24 e28 e37 e40 (by omega) (by omega) (by omega) (by omega) (by omega) (by omega) e197 e200 F201 e204 (by omega)) rfl H locs ls hP hD hS (lv_sub hl [0, 4, 1, 5, 6, 7] rfl)
            · have c80 : 32 ≤ m8_L_3.toInt := z2 rfl (by decide) c80
              refine lv_iconst (v := 0) hx hb dX4_answer_83 (by decide) ?_
              have zr0 : (0 : Int32).toInt = 0 := by decide
              rw [hQ]
              exact W.iret (v := 0) hx hb hr (fun t ht hW => ⟨⟨0, m8_A_aK, rfl, (fun tk ht => zAnsF (jv8_0 tk ht) ht (by omega) (by omega) e24 e28 e37 e40 (by omega) (by omega) (by omega)), ⟨by rw [ht]; exact hP, hD⟩⟩, hS.F ht⟩) hS.2.2 dX4_answer_84
          · have c68 : ¬ v28.toInt = 1 := z6 rfl (by decide) c68
            refine lv_iload hx hb dX4_answer_71 (lv_at hl 1 rfl) ?_
            refine lv_iconst (v := 2) hx hb dX4_answer_73 (by decide) ?_
            refine lv_icmp_ne (tgt := 109) hx hb dX4_answer_74 (by decide) (fun c74 => ?_) (fun c74 => ?_)
            · have c74 : ¬ v28.toInt = 2 := z6 rfl (by decide) c74
              refine lv_iload_n hx hb dX4_answer_109 rfl (lv_at hl 4 rfl) ?_
              refine lv_iconst (v := 1) hx hb dX4_answer_110 (by decide) ?_
              refine lv_icmp_ge (tgt := 116) hx hb dX4_answer_111 (by decide) (fun c111 => ?_) (fun c111 => ?_)
              · have c111 : 1 ≤ m8_L_3.toInt := z3 (by decide) rfl c111
                refine lv_iload hx hb dX4_answer_116 (lv_at hl 1 rfl) ?_
                refine lv_bipush (v := 59) hx hb dX4_answer_118 (by decide) ?_
                refine lv_icmp_ne (tgt := 129) hx hb dX4_answer_120 (by decide) (fun c120 => ?_) (fun c120 => ?_)
                · have c120 : ¬ v28.toInt = 59 := z6 rfl (by decide) c120
                  refine lv_iload hx hb dX4_answer_129 (lv_at hl 1 rfl) ?_
                  refine lv_bipush (v := 63) hx hb dX4_answer_131 (by decide) ?_
                  refine lv_icmp_ne (tgt := 155) hx hb dX4_answer_133 (by decide) (fun c133 => ?_) (fun c133 => ?_)
                  · have c133 : ¬ v28.toInt = 63 := z6 rfl (by decide) c133
                    refine lv_iload hx hb dX4_answer_155 (lv_at hl 1 rfl) ?_
                    refine lv_bipush (v := 33) hx hb dX4_answer_157 (by decide) ?_
                    refine lv_icmp_ne (tgt := 177) hx hb dX4_answer_159 (by decide) (fun c159 => ?_) (fun c159 => ?_)
                    · have c159 : ¬ v28.toInt = 33 := z6 rfl (by decide) c159
                      refine lv_iload_n hx hb dX4_answer_177 rfl (lv_at hl 4 rfl) ?_
                      refine lv_iconst (v := 2) hx hb dX4_answer_178 (by decide) ?_
                      refine lv_icmp_ge (tgt := 184) hx hb dX4_answer_179 (by decide) (fun c179 => ?_) (fun c179 => ?_)
                      · have c179 : 2 ≤ m8_L_3.toInt := z3 (by decide) rfl c179
                        obtain ⟨v184, e184⟩ : ∃ y : Int32, y = m8_L_3 + Int32.ofInt (-1) := ⟨_, rfl⟩
                        refine lv_iinc (v := v184) (lv' := [(3, .int v184), (7, .int v40), (6, .int v28), (5, .int m8_L_5), (4, .int m8_L_4), (0, .ref h0), (1, .ref aL), (2, .ref aK)]) hx hb dX4_answer_184 hl (k := 4) rfl e184.symm (by decide) rfl (fun ls hl => ?_)
                        have i184 : v184.toInt = m8_L_3.toInt + (-1) := zaddI e184 (by decide) (by omega) (by omega)
                        refine lv_aload_n hx hb dX4_answer_187 rfl (lv_at hl 7 rfl) ?_
                        refine lv_iload_n hx hb dX4_answer_188 rfl (lv_at hl 0 rfl) ?_
                        refine lv_iconst (v := 1) hx hb dX4_answer_189 (by decide) ?_
                        refine lv_isub hx hb dX4_answer_190 ?_
                        refine lv_topi (fun v190 e190 => ?_)
                        have i190 : v190.toInt = v184.toInt - 1 := zsub e190 rfl (by decide) (by omega) (by omega)
                        refine lv_iload hx hb dX4_answer_191 (lv_at hl 2 rfl) ?_
                        refine lv_aload_n hx hb dX4_answer_193 rfl (lv_at hl 7 rfl) ?_
                        refine lv_iload_n hx hb dX4_answer_194 rfl (lv_at hl 0 rfl) ?_
                        refine lv_iconst (v := 1) hx hb dX4_answer_195 (by decide) ?_
                        refine lv_isub hx hb dX4_answer_196 ?_
                        refine lv_topi (fun v196 e196 => ?_)
                        have i196 : v196.toInt = v184.toInt - 1 := zsub e196 rfl (by decide) (by omega) (by omega)
                        refine va_iald hx hb hK hP 3 0 rfl rfl (vp_in_iff.mpr ⟨by omega, by omega⟩) dX4_answer_197 ?_
                        refine lv_topi (fun v197 e197 => ?_)
                        refine lv_aload_n hx hb dX4_answer_198 rfl (lv_at hl 7 rfl) ?_
                        refine lv_iload_n hx hb dX4_answer_199 rfl (lv_at hl 0 rfl) ?_
                        refine va_iald hx hb hK hP 3 0 rfl rfl (vp_in_iff.mpr ⟨by omega, by omega⟩) dX4_answer_200 ?_
                        refine lv_topi (fun v200 e200 => ?_)
                        have hPc : va_P (dC, dI) vwCl [] H := zP0
                        have hDc : va_D (fun _ => True) [] := zD0
                        have hFc := zfr hS hA
                        refine va_calli (va_runS (As := [.int v28, .int v197, .int v200]) (rest := [.int v190, .ref aK]) ⟨hx, hb, hml, hown, hts⟩ (g_X4_joined l dC dI cI cJ v28 v197 v200 H.size) (cwS 3 hts (zgS qw672 qw673 qw110 qw674) rfl rfl rfl hd_X4_joined ⟨by rw [hR]; exact Nat.le_of_ble_eq_true rfl, by rw [hR]; exact Nat.le_of_ble_eq_true rfl⟩) (zPS hPc hK hDc) rfl rfl hl.1 rfl (lv_room (Nat.le_of_ble_eq_true rfl)) dX4_answer_201 ⟨Nat.zero_le _, Nat.zero_le _⟩) hS (fun q _ h => hFc q h) hFc (fun v201 u201 t H locs ht hvm hw hB hz1 hk1 hS9 => ?_)
                        replace hP := zkeep hP hk1
                        replace hS := hS9
                        clear hPc hDc hFc hk1 hz1 hvm hS9
                        have f201_0 : (v201 = zJc v28.toInt v197 v200) := hw
                        have F201 := f201_0
                        refine va_iast hx hb hK hP hD hS 3 0 rfl rfl (vp_in_iff.mpr ⟨by omega, by omega⟩) dX4_answer_204 (fun H locs hP9 hD9 hS9 => ?_)
                        clear hP hD hS
                        obtain ⟨v204_f, e204⟩ : ∃ g : Nat → Int32, g = upd m8_A_aK (v190).toNatClampNeg v201 := ⟨_, rfl⟩
                        rw [← e204] at hP9 hD9
                        obtain ⟨hP, hD⟩ := zst (wX := [(h0, .inr (4, [.ref lS])), (lS, .inl (cI, lk, .inl fS)), (aL, .inl (cI, 6, .inl fL)), (aK, .inl (cI, 32, .inl v204_f))]) hP9 hD9 rfl
                        have hS := hS9
                        clear hP9 hD9 hS9
                        obtain ⟨v205, e205⟩ : ∃ y : Int32, y = m8_L_5 + Int32.ofInt (1) := ⟨_, rfl⟩
                        refine lv_iinc (v := v205) (lv' := [(5, .int v205), (3, .int v184), (7, .int v40), (6, .int v28), (4, .int m8_L_4), (0, .ref h0), (1, .ref aL), (2, .ref aK)]) hx hb dX4_answer_205 hl (k := 3) rfl e205.symm (by decide) rfl (fun ls hl => ?_)
                        have i205 : v205.toInt = m8_L_5.toInt + 1 := zaddI e205 (by decide) (by omega) (by omega)
                        refine lv_goto (tgt := 8) hx hb dX4_answer_208 (by decide) ?_
                        exact ih8 _ (by omega) v204_f v184 m8_L_4 v205 (by omega) jf8_1 (by omega) (by first | exact fun tk ht => zAnsK (jv8_0 tk ht) ht (by omega) (by omega) e24 e28 e37 e40 (by omega) (by omega) (by omega) | exact fun tk ht => zAnsP (jv8_0 tk ht) ht (by omega) (by omega) e24 e28 e37 e40 (by omega) (Or.inl ⟨by omega, rfl⟩) (by omega) e102 (by omega) (by omega) | exact fun tk ht => zAnsP (jv8_0 tk ht) ht (by omega) (by omega) e24 e28 e37 e40 (by omega) (Or.inr ⟨by omega, e101⟩) (by omega) e102 (by omega) (by omega) | exact fun tk ht => zAnsC (jv8_0 tk ht) ht (by omega) (by omega) e24 e28 e37 e40 (by omega) (by omega) (by omega) (by omega) e141 (by omega) (by omega) | exact fun tk ht => zAnsN (jv8_0 tk ht) ht (by omega) (by omega) e24 e28 e37 e40 (by omega) (by omega) (by omega) (by omega) (by omega) e171 e172 e173 (by omega) | exact fun tk ht => zAnsO (jv8_0 tk ht) ht (by omega) (by omega) e24 e28 e37 e40 (by omega) (by omega) (by omega) (by omega) (by omega) (by omega) e197 e200 F201 e204 (by omega)) rfl H locs ls hP hD hS (lv_sub hl [0, 4, 1, 5, 6, 7] rfl)
                      · have c179 : m8_L_3.toInt < 2 := z4 (by decide) rfl c179
                        refine lv_iconst (v := 0) hx hb dX4_answer_182 (by decide) ?_
                        have zr0 : (0 : Int32).toInt = 0 := by decide
                        rw [hQ]
                        exact W.iret (v := 0) hx hb hr (fun t ht hW => ⟨⟨0, m8_A_aK, rfl, (fun tk ht => zAnsO1 (jv8_0 tk ht) ht (by omega) (by omega) e24 e28 e37 e40 (by omega) (by omega) (by omega) (by omega)), ⟨by rw [ht]; exact hP, hD⟩⟩, hS.F ht⟩) hS.2.2 dX4_answer_183
                    · have c159 : v28.toInt = 33 := z5 rfl (by decide) c159
                      refine lv_aload_n hx hb dX4_answer_162 rfl (lv_at hl 7 rfl) ?_
                      refine lv_iload_n hx hb dX4_answer_163 rfl (lv_at hl 4 rfl) ?_
                      refine lv_iconst (v := 1) hx hb dX4_answer_164 (by decide) ?_
                      refine lv_isub hx hb dX4_answer_165 ?_
                      refine lv_topi (fun v165 e165 => ?_)
                      have i165 : v165.toInt = m8_L_3.toInt - 1 := zsub e165 rfl (by decide) (by omega) (by omega)
                      refine lv_iconst (v := 1) hx hb dX4_answer_166 (by decide) ?_
                      refine lv_aload_n hx hb dX4_answer_167 rfl (lv_at hl 7 rfl) ?_
                      refine lv_iload_n hx hb dX4_answer_168 rfl (lv_at hl 4 rfl) ?_
                      refine lv_iconst (v := 1) hx hb dX4_answer_169 (by decide) ?_
                      refine lv_isub hx hb dX4_answer_170 ?_
                      refine lv_topi (fun v170 e170 => ?_)
                      have i170 : v170.toInt = m8_L_3.toInt - 1 := zsub e170 rfl (by decide) (by omega) (by omega)
                      refine va_iald hx hb hK hP 3 0 rfl rfl (vp_in_iff.mpr ⟨by omega, by omega⟩) dX4_answer_171 ?_
                      refine lv_topi (fun v171 e171 => ?_)
                      refine lv_isub hx hb dX4_answer_172 ?_
                      refine lv_topi (fun v172 e172 => ?_)
                      refine va_iast hx hb hK hP hD hS 3 0 rfl rfl (vp_in_iff.mpr ⟨by omega, by omega⟩) dX4_answer_173 (fun H locs hP9 hD9 hS9 => ?_)
                      clear hP hD hS
                      obtain ⟨v173_f, e173⟩ : ∃ g : Nat → Int32, g = upd m8_A_aK (v165).toNatClampNeg v172 := ⟨_, rfl⟩
                      rw [← e173] at hP9 hD9
                      obtain ⟨hP, hD⟩ := zst (wX := [(h0, .inr (4, [.ref lS])), (lS, .inl (cI, lk, .inl fS)), (aL, .inl (cI, 6, .inl fL)), (aK, .inl (cI, 32, .inl v173_f))]) hP9 hD9 rfl
                      have hS := hS9
                      clear hP9 hD9 hS9
                      refine lv_goto (tgt := 205) hx hb dX4_answer_174 (by decide) ?_
                      obtain ⟨v205, e205⟩ : ∃ y : Int32, y = m8_L_5 + Int32.ofInt (1) := ⟨_, rfl⟩
                      refine lv_iinc (v := v205) (lv' := [(5, .int v205), (7, .int v40), (6, .int v28), (4, .int m8_L_4), (3, .int m8_L_3), (0, .ref h0), (1, .ref aL), (2, .ref aK)]) hx hb dX4_answer_205 hl (k := 2) rfl e205.symm (by decide) rfl (fun ls hl => ?_)
                      have i205 : v205.toInt = m8_L_5.toInt + 1 := zaddI e205 (by decide) (by omega) (by omega)
                      refine lv_goto (tgt := 8) hx hb dX4_answer_208 (by decide) ?_
                      exact ih8 _ (by omega) v173_f m8_L_3 m8_L_4 v205 jf8_0 jf8_1 (by omega) (by first | exact fun tk ht => zAnsK (jv8_0 tk ht) ht (by omega) (by omega) e24 e28 e37 e40 (by omega) (by omega) (by omega) | exact fun tk ht => zAnsP (jv8_0 tk ht) ht (by omega) (by omega) e24 e28 e37 e40 (by omega) (Or.inl ⟨by omega, rfl⟩) (by omega) e102 (by omega) (by omega) | exact fun tk ht => zAnsP (jv8_0 tk ht) ht (by omega) (by omega) e24 e28 e37 e40 (by omega) (Or.inr ⟨by omega, e101⟩) (by omega) e102 (by omega) (by omega) | exact fun tk ht => zAnsC (jv8_0 tk ht) ht (by omega) (by omega) e24 e28 e37 e40 (by omega) (by omega) (by omega) (by omega) e141 (by omega) (by omega) | exact fun tk ht => zAnsN (jv8_0 tk ht) ht (by omega) (by omega) e24 e28 e37 e40 (by omega) (by omega) (by omega) (by omega) (by omega) e171 e172 e173 (by omega) | exact fun tk ht => zAnsO (jv8_0 tk ht) ht (by omega) (by omega) e24 e28 e37 e40 (by omega) (by omega) (by omega) (by omega) (by omega) (by omega) e197 e200 F201 e204 (by omega)) rfl H locs ls hP hD hS (lv_sub hl [0, 3, 4, 5, 6, 7] rfl)
                  · have c133 : v28.toInt = 63 := z5 rfl (by decide) c133
                    obtain ⟨v136, e136⟩ : ∃ y : Int32, y = m8_L_3 + Int32.ofInt (-1) := ⟨_, rfl⟩
                    refine lv_iinc (v := v136) (lv' := [(3, .int v136), (7, .int v40), (6, .int v28), (5, .int m8_L_5), (4, .int m8_L_4), (0, .ref h0), (1, .ref aL), (2, .ref aK)]) hx hb dX4_answer_136 hl (k := 4) rfl e136.symm (by decide) rfl (fun ls hl => ?_)
                    have i136 : v136.toInt = m8_L_3.toInt + (-1) := zaddI e136 (by decide) (by omega) (by omega)
                    refine lv_aload_n hx hb dX4_answer_139 rfl (lv_at hl 7 rfl) ?_
                    refine lv_iload_n hx hb dX4_answer_140 rfl (lv_at hl 0 rfl) ?_
                    refine va_iald hx hb hK hP 3 0 rfl rfl (vp_in_iff.mpr ⟨by omega, by omega⟩) dX4_answer_141 ?_
                    refine lv_topi (fun v141 e141 => ?_)
                    refine lv_if_ne (tgt := 149) hx hb dX4_answer_142 (by decide) (fun c142 => ?_) (fun c142 => ?_)
                    · have c142 : ¬ v141.toInt = 0 := z6 rfl (by decide) c142
                      refine lv_iconst (v := 0) hx hb dX4_answer_149 (by decide) ?_
                      refine lv_istore (lv' := [(4, .int 0), (3, .int v136), (7, .int v40), (6, .int v28), (5, .int m8_L_5), (0, .ref h0), (1, .ref aL), (2, .ref aK)]) hx hb dX4_answer_150 hl (by decide) rfl (fun ls hl => ?_)
                      refine lv_goto (tgt := 205) hx hb dX4_answer_152 (by decide) ?_
                      obtain ⟨v205, e205⟩ : ∃ y : Int32, y = m8_L_5 + Int32.ofInt (1) := ⟨_, rfl⟩
                      refine lv_iinc (v := v205) (lv' := [(5, .int v205), (4, .int 0), (3, .int v136), (7, .int v40), (6, .int v28), (0, .ref h0), (1, .ref aL), (2, .ref aK)]) hx hb dX4_answer_205 hl (k := 4) rfl e205.symm (by decide) rfl (fun ls hl => ?_)
                      have i205 : v205.toInt = m8_L_5.toInt + 1 := zaddI e205 (by decide) (by omega) (by omega)
                      refine lv_goto (tgt := 8) hx hb dX4_answer_208 (by decide) ?_
                      have zj8_m8_L_4 : (0 : Int32).toInt = 0 := by decide
                      exact ih8 _ (by omega) m8_A_aK v136 0 v205 (by omega) (by decide) (by omega) (by first | exact fun tk ht => zAnsK (jv8_0 tk ht) ht (by omega) (by omega) e24 e28 e37 e40 (by omega) (by omega) (by omega) | exact fun tk ht => zAnsP (jv8_0 tk ht) ht (by omega) (by omega) e24 e28 e37 e40 (by omega) (Or.inl ⟨by omega, rfl⟩) (by omega) e102 (by omega) (by omega) | exact fun tk ht => zAnsP (jv8_0 tk ht) ht (by omega) (by omega) e24 e28 e37 e40 (by omega) (Or.inr ⟨by omega, e101⟩) (by omega) e102 (by omega) (by omega) | exact fun tk ht => zAnsC (jv8_0 tk ht) ht (by omega) (by omega) e24 e28 e37 e40 (by omega) (by omega) (by omega) (by omega) e141 (by omega) (by omega) | exact fun tk ht => zAnsN (jv8_0 tk ht) ht (by omega) (by omega) e24 e28 e37 e40 (by omega) (by omega) (by omega) (by omega) (by omega) e171 e172 e173 (by omega) | exact fun tk ht => zAnsO (jv8_0 tk ht) ht (by omega) (by omega) e24 e28 e37 e40 (by omega) (by omega) (by omega) (by omega) (by omega) (by omega) e197 e200 F201 e204 (by omega)) rfl H locs ls hP hD hS (lv_sub hl [0, 1, 2, 5, 6, 7] rfl)
                    · have c142 : v141.toInt = 0 := z5 rfl (by decide) c142
                      refine lv_iconst (v := 1) hx hb dX4_answer_145 (by decide) ?_
                      refine lv_goto (tgt := 150) hx hb dX4_answer_146 (by decide) ?_
                      refine lv_istore (lv' := [(4, .int 1), (3, .int v136), (7, .int v40), (6, .int v28), (5, .int m8_L_5), (0, .ref h0), (1, .ref aL), (2, .ref aK)]) hx hb dX4_answer_150 hl (by decide) rfl (fun ls hl => ?_)
                      refine lv_goto (tgt := 205) hx hb dX4_answer_152 (by decide) ?_
                      obtain ⟨v205, e205⟩ : ∃ y : Int32, y = m8_L_5 + Int32.ofInt (1) := ⟨_, rfl⟩
                      refine lv_iinc (v := v205) (lv' := [(5, .int v205), (4, .int 1), (3, .int v136), (7, .int v40), (6, .int v28), (0, .ref h0), (1, .ref aL), (2, .ref aK)]) hx hb dX4_answer_205 hl (k := 4) rfl e205.symm (by decide) rfl (fun ls hl => ?_)
                      have i205 : v205.toInt = m8_L_5.toInt + 1 := zaddI e205 (by decide) (by omega) (by omega)
                      refine lv_goto (tgt := 8) hx hb dX4_answer_208 (by decide) ?_
                      have zj8_m8_L_4 : (1 : Int32).toInt = 1 := by decide
                      exact ih8 _ (by omega) m8_A_aK v136 1 v205 (by omega) (by decide) (by omega) (by first | exact fun tk ht => zAnsK (jv8_0 tk ht) ht (by omega) (by omega) e24 e28 e37 e40 (by omega) (by omega) (by omega) | exact fun tk ht => zAnsP (jv8_0 tk ht) ht (by omega) (by omega) e24 e28 e37 e40 (by omega) (Or.inl ⟨by omega, rfl⟩) (by omega) e102 (by omega) (by omega) | exact fun tk ht => zAnsP (jv8_0 tk ht) ht (by omega) (by omega) e24 e28 e37 e40 (by omega) (Or.inr ⟨by omega, e101⟩) (by omega) e102 (by omega) (by omega) | exact fun tk ht => zAnsC (jv8_0 tk ht) ht (by omega) (by omega) e24 e28 e37 e40 (by omega) (by omega) (by omega) (by omega) e141 (by omega) (by omega) | exact fun tk ht => zAnsN (jv8_0 tk ht) ht (by omega) (by omega) e24 e28 e37 e40 (by omega) (by omega) (by omega) (by omega) (by omega) e171 e172 e173 (by omega) | exact fun tk ht => zAnsO (jv8_0 tk ht) ht (by omega) (by omega) e24 e28 e37 e40 (by omega) (by omega) (by omega) (by omega) (by omega) (by omega) e197 e200 F201 e204 (by omega)) rfl H locs ls hP hD hS (lv_sub hl [0, 1, 2, 5, 6, 7] rfl)
                · have c120 : v28.toInt = 59 := z5 rfl (by decide) c120
                  refine lv_aload_n hx hb dX4_answer_123 rfl (lv_at hl 7 rfl) ?_
                  refine lv_iload_n hx hb dX4_answer_124 rfl (lv_at hl 4 rfl) ?_
                  refine lv_iconst (v := 1) hx hb dX4_answer_125 (by decide) ?_
                  refine lv_isub hx hb dX4_answer_126 ?_
                  refine lv_topi (fun v126 e126 => ?_)
                  have i126 : v126.toInt = m8_L_3.toInt - 1 := zsub e126 rfl (by decide) (by omega) (by omega)
                  refine va_iald hx hb hK hP 3 0 rfl rfl (vp_in_iff.mpr ⟨by omega, by omega⟩) dX4_answer_127 ?_
                  refine lv_topi (fun v127 e127 => ?_)
                  rw [hQ]
                  exact W.iret (v := v127) hx hb hr (fun t ht hW => ⟨⟨v127, m8_A_aK, rfl, (fun tk ht => zAnsA (jv8_0 tk ht) ht (by omega) (by omega) e24 e28 e37 e40 (by omega) (by omega) (by omega) (by omega) e127), ⟨by rw [ht]; exact hP, hD⟩⟩, hS.F ht⟩) hS.2.2 dX4_answer_128
              · have c111 : m8_L_3.toInt < 1 := z4 (by decide) rfl c111
                refine lv_iconst (v := 0) hx hb dX4_answer_114 (by decide) ?_
                have zr0 : (0 : Int32).toInt = 0 := by decide
                rw [hQ]
                exact W.iret (v := 0) hx hb hr (fun t ht hW => ⟨⟨0, m8_A_aK, rfl, (fun tk ht => (zAns1 (jv8_0 tk ht) ht (by omega) (by omega) e24 e28 e37 e40 (by omega) (by omega)).1 (by omega)), ⟨by rw [ht]; exact hP, hD⟩⟩, hS.F ht⟩) hS.2.2 dX4_answer_115
            · have c74 : v28.toInt = 2 := z5 rfl (by decide) c74
              refine lv_iload_n hx hb dX4_answer_77 rfl (lv_at hl 4 rfl) ?_
              refine lv_aload_n hx hb dX4_answer_78 rfl (lv_at hl 7 rfl) ?_
              refine va_alen (v := 32) hx hb hK hP 3 0 rfl rfl rfl dX4_answer_79 ?_
              refine lv_icmp_lt (tgt := 85) hx hb dX4_answer_80 (by decide) (fun c80 => ?_) (fun c80 => ?_)
              · have c80 : m8_L_3.toInt < 32 := z1 rfl (by decide) c80
                refine lv_aload_n hx hb dX4_answer_85 rfl (lv_at hl 7 rfl) ?_
                refine lv_iload_n hx hb dX4_answer_86 rfl (lv_at hl 4 rfl) ?_
                refine lv_iload hx hb dX4_answer_87 (lv_at hl 1 rfl) ?_
                refine lv_iconst (v := 1) hx hb dX4_answer_89 (by decide) ?_
                refine lv_icmp_ne (tgt := 98) hx hb dX4_answer_90 (by decide) (fun c90 => ?_) (fun c90 => by exfalso; have c90 : v28.toInt = 1 := z5 rfl (by decide) c90; omega)
                have c90 : ¬ v28.toInt = 1 := z6 rfl (by decide) c90
                refine lv_aload_n hx hb dX4_answer_98 rfl (lv_at hl 6 rfl) ?_
                have q99 : 0 ≤ v40.toInt ∧ v40.toInt ≤ 5 := zSt_get ci_fS_zSt e24 e28 e37 e40 (by omega)
                refine lv_iload hx hb dX4_answer_99 (lv_at hl 0 rfl) ?_
                refine va_iald hx hb hK hP 2 0 rfl rfl (vp_in_iff.mpr ⟨by omega, by omega⟩) dX4_answer_101 ?_
                refine lv_topi (fun v101 e101 => ?_)
                refine va_iast hx hb hK hP hD hS 3 0 rfl rfl (vp_in_iff.mpr ⟨by omega, by omega⟩) dX4_answer_102 (fun H locs hP9 hD9 hS9 => ?_)
                clear hP hD hS
                obtain ⟨v102_f, e102⟩ : ∃ g : Nat → Int32, g = upd m8_A_aK (m8_L_3).toNatClampNeg v101 := ⟨_, rfl⟩
                rw [← e102] at hP9 hD9
                obtain ⟨hP, hD⟩ := zst (wX := [(h0, .inr (4, [.ref lS])), (lS, .inl (cI, lk, .inl fS)), (aL, .inl (cI, 6, .inl fL)), (aK, .inl (cI, 32, .inl v102_f))]) hP9 hD9 rfl
                have hS := hS9
                clear hP9 hD9 hS9
                obtain ⟨v103, e103⟩ : ∃ y : Int32, y = m8_L_3 + Int32.ofInt (1) := ⟨_, rfl⟩
                refine lv_iinc (v := v103) (lv' := [(3, .int v103), (7, .int v40), (6, .int v28), (5, .int m8_L_5), (4, .int m8_L_4), (0, .ref h0), (1, .ref aL), (2, .ref aK)]) hx hb dX4_answer_103 hl (k := 4) rfl e103.symm (by decide) rfl (fun ls hl => ?_)
                have i103 : v103.toInt = m8_L_3.toInt + 1 := zaddI e103 (by decide) (by omega) (by omega)
                refine lv_goto (tgt := 205) hx hb dX4_answer_106 (by decide) ?_
                obtain ⟨v205, e205⟩ : ∃ y : Int32, y = m8_L_5 + Int32.ofInt (1) := ⟨_, rfl⟩
                refine lv_iinc (v := v205) (lv' := [(5, .int v205), (3, .int v103), (7, .int v40), (6, .int v28), (4, .int m8_L_4), (0, .ref h0), (1, .ref aL), (2, .ref aK)]) hx hb dX4_answer_205 hl (k := 3) rfl e205.symm (by decide) rfl (fun ls hl => ?_)
                have i205 : v205.toInt = m8_L_5.toInt + 1 := zaddI e205 (by decide) (by omega) (by omega)
                refine lv_goto (tgt := 8) hx hb dX4_answer_208 (by decide) ?_
                exact ih8 _ (by omega) v102_f v103 m8_L_4 v205 (by omega) jf8_1 (by omega) (by first | exact fun tk ht => zAnsK (jv8_0 tk ht) ht (by omega) (by omega) e24 e28 e37 e40 (by omega) (by omega) (by omega) | exact fun tk ht => zAnsP (jv8_0 tk ht) ht (by omega) (by omega) e24 e28 e37 e40 (by omega) (Or.inl ⟨by omega, rfl⟩) (by omega) e102 (by omega) (by omega) | exact fun tk ht => zAnsP (jv8_0 tk ht) ht (by omega) (by omega) e24 e28 e37 e40 (by omega) (Or.inr ⟨by omega, e101⟩) (by omega) e102 (by omega) (by omega) | exact fun tk ht => zAnsC (jv8_0 tk ht) ht (by omega) (by omega) e24 e28 e37 e40 (by omega) (by omega) (by omega) (by omega) e141 (by omega) (by omega) | exact fun tk ht => zAnsN (jv8_0 tk ht) ht (by omega) (by omega) e24 e28 e37 e40 (by omega) (by omega) (by omega) (by omega) (by omega) e171 e172 e173 (by omega) | exact fun tk ht => zAnsO (jv8_0 tk ht) ht (by omega) (by omega) e24 e28 e37 e40 (by omega) (by omega) (by omega) (by omega) (by omega) (by omega) e197 e200 F201 e204 (by omega)) rfl H locs ls hP hD hS (lv_sub hl [0, 4, 1, 5, 6, 7] rfl)
              · have c80 : 32 ≤ m8_L_3.toInt := z2 rfl (by decide) c80
                refine lv_iconst (v := 0) hx hb dX4_answer_83 (by decide) ?_
                have zr0 : (0 : Int32).toInt = 0 := by decide
                rw [hQ]
                exact W.iret (v := 0) hx hb hr (fun t ht hW => ⟨⟨0, m8_A_aK, rfl, (fun tk ht => zAnsF (jv8_0 tk ht) ht (by omega) (by omega) e24 e28 e37 e40 (by omega) (by omega) (by omega)), ⟨by rw [ht]; exact hP, hD⟩⟩, hS.F ht⟩) hS.2.2 dX4_answer_84
        · have c45 : ¬ m8_L_4.toInt = 0 := z6 rfl (by decide) c45
          refine lv_iload hx hb dX4_answer_48 (lv_at hl 1 rfl) ?_
          refine lv_bipush (v := 59) hx hb dX4_answer_50 (by decide) ?_
          refine lv_icmp_eq (tgt := 59) hx hb dX4_answer_52 (by decide) (fun c52 => ?_) (fun c52 => ?_)
          · have c52 : v28.toInt = 59 := z5 rfl (by decide) c52
            refine lv_iconst (v := 0) hx hb dX4_answer_59 (by decide) ?_
            refine lv_istore (lv' := [(4, .int 0), (7, .int v40), (6, .int v28), (5, .int m8_L_5), (3, .int m8_L_3), (0, .ref h0), (1, .ref aL), (2, .ref aK)]) hx hb dX4_answer_60 hl (by decide) rfl (fun ls hl => ?_)
            refine lv_goto (tgt := 205) hx hb dX4_answer_62 (by decide) ?_
            obtain ⟨v205, e205⟩ : ∃ y : Int32, y = m8_L_5 + Int32.ofInt (1) := ⟨_, rfl⟩
            refine lv_iinc (v := v205) (lv' := [(5, .int v205), (4, .int 0), (7, .int v40), (6, .int v28), (3, .int m8_L_3), (0, .ref h0), (1, .ref aL), (2, .ref aK)]) hx hb dX4_answer_205 hl (k := 3) rfl e205.symm (by decide) rfl (fun ls hl => ?_)
            have i205 : v205.toInt = m8_L_5.toInt + 1 := zaddI e205 (by decide) (by omega) (by omega)
            refine lv_goto (tgt := 8) hx hb dX4_answer_208 (by decide) ?_
            have zj8_m8_L_4 : (0 : Int32).toInt = 0 := by decide
            exact ih8 _ (by omega) m8_A_aK m8_L_3 0 v205 jf8_0 (by decide) (by omega) (by first | exact fun tk ht => zAnsK (jv8_0 tk ht) ht (by omega) (by omega) e24 e28 e37 e40 (by omega) (by omega) (by omega) | exact fun tk ht => zAnsP (jv8_0 tk ht) ht (by omega) (by omega) e24 e28 e37 e40 (by omega) (Or.inl ⟨by omega, rfl⟩) (by omega) e102 (by omega) (by omega) | exact fun tk ht => zAnsP (jv8_0 tk ht) ht (by omega) (by omega) e24 e28 e37 e40 (by omega) (Or.inr ⟨by omega, e101⟩) (by omega) e102 (by omega) (by omega) | exact fun tk ht => zAnsC (jv8_0 tk ht) ht (by omega) (by omega) e24 e28 e37 e40 (by omega) (by omega) (by omega) (by omega) e141 (by omega) (by omega) | exact fun tk ht => zAnsN (jv8_0 tk ht) ht (by omega) (by omega) e24 e28 e37 e40 (by omega) (by omega) (by omega) (by omega) (by omega) e171 e172 e173 (by omega) | exact fun tk ht => zAnsO (jv8_0 tk ht) ht (by omega) (by omega) e24 e28 e37 e40 (by omega) (by omega) (by omega) (by omega) (by omega) (by omega) e197 e200 F201 e204 (by omega)) rfl H locs ls hP hD hS (lv_sub hl [0, 1, 4, 5, 6, 7] rfl)
          · have c52 : ¬ v28.toInt = 59 := z6 rfl (by decide) c52
            refine lv_iconst (v := 1) hx hb dX4_answer_55 (by decide) ?_
            refine lv_goto (tgt := 60) hx hb dX4_answer_56 (by decide) ?_
            refine lv_istore (lv' := [(4, .int 1), (7, .int v40), (6, .int v28), (5, .int m8_L_5), (3, .int m8_L_3), (0, .ref h0), (1, .ref aL), (2, .ref aK)]) hx hb dX4_answer_60 hl (by decide) rfl (fun ls hl => ?_)
            refine lv_goto (tgt := 205) hx hb dX4_answer_62 (by decide) ?_
            obtain ⟨v205, e205⟩ : ∃ y : Int32, y = m8_L_5 + Int32.ofInt (1) := ⟨_, rfl⟩
            refine lv_iinc (v := v205) (lv' := [(5, .int v205), (4, .int 1), (7, .int v40), (6, .int v28), (3, .int m8_L_3), (0, .ref h0), (1, .ref aL), (2, .ref aK)]) hx hb dX4_answer_205 hl (k := 3) rfl e205.symm (by decide) rfl (fun ls hl => ?_)
            have i205 : v205.toInt = m8_L_5.toInt + 1 := zaddI e205 (by decide) (by omega) (by omega)
            refine lv_goto (tgt := 8) hx hb dX4_answer_208 (by decide) ?_
            have zj8_m8_L_4 : (1 : Int32).toInt = 1 := by decide
            exact ih8 _ (by omega) m8_A_aK m8_L_3 1 v205 jf8_0 (by decide) (by omega) (by first | exact fun tk ht => zAnsK (jv8_0 tk ht) ht (by omega) (by omega) e24 e28 e37 e40 (by omega) (by omega) (by omega) | exact fun tk ht => zAnsP (jv8_0 tk ht) ht (by omega) (by omega) e24 e28 e37 e40 (by omega) (Or.inl ⟨by omega, rfl⟩) (by omega) e102 (by omega) (by omega) | exact fun tk ht => zAnsP (jv8_0 tk ht) ht (by omega) (by omega) e24 e28 e37 e40 (by omega) (Or.inr ⟨by omega, e101⟩) (by omega) e102 (by omega) (by omega) | exact fun tk ht => zAnsC (jv8_0 tk ht) ht (by omega) (by omega) e24 e28 e37 e40 (by omega) (by omega) (by omega) (by omega) e141 (by omega) (by omega) | exact fun tk ht => zAnsN (jv8_0 tk ht) ht (by omega) (by omega) e24 e28 e37 e40 (by omega) (by omega) (by omega) (by omega) (by omega) e171 e172 e173 (by omega) | exact fun tk ht => zAnsO (jv8_0 tk ht) ht (by omega) (by omega) e24 e28 e37 e40 (by omega) (by omega) (by omega) (by omega) (by omega) (by omega) e197 e200 F201 e204 (by omega)) rfl H locs ls hP hD hS (lv_sub hl [0, 1, 4, 5, 6, 7] rfl)
  refine lv_istore (lv' := [(5, .int 0), (4, .int 0), (3, .int 0), (0, .ref h0), (1, .ref aL), (2, .ref aK)]) hx hb dX4_answer_6 hl (by decide) rfl (fun ls hl => ?_)
  have zj8_m8_L_3 : (0 : Int32).toInt = 0 := by decide
  have zj8_m8_L_4 : (0 : Int32).toInt = 0 := by decide
  have zj8_m8_L_5 : (0 : Int32).toInt = 0 := by decide
  exact J8 _ fK 0 0 0 (by decide) (by decide) (by decide) (fun tk ht => zAns0) rfl H locs ls hP hD hS (lv_sub hl [0, 1, 2, 3, 4, 5] rfl)
set_option maxHeartbeats 4000000 in
set_option maxRecDepth 100000 in
theorem g_X8_flatteryFor (l : Launch) (dC : Nat → ClassId) (dI : Nat → Nat → Nat) (cI cJ : ClassId) (h0 : Nat) (p0 : Int32) (p1 : Int32) (h0_oneLooks : Value) (h0_otherLooks : Value) (h0_court : Value) (g0 : Nat) (h0_letters : Value) (h0_stack : Value) (h0_law : Value) (gY : Nat) (gF : Nat) (gP : Nat) (gpn : Int32) (glt : Int32) (gsh : Int32) (gwd : Int32) (gpu : Int32) (gmo : Int32) (gfF : Nat → Int32) (sz : Nat) (n_p0 : 0 ≤ p0.toInt ∧ p0.toInt ≤ 4)    : Met l yX8_flatteryFor (.code yX8_flatteryFor cX8_flatteryFor 3 (some .int) :: wA) ({ frames := 1, cells := 0, slots := 0, locals := 30 }) (zP (dC, dI) [(cI, .int), (cJ, .long)] [.ref h0, .int p0, .int p1] sz [(h0, .inr (8, [h0_oneLooks, h0_otherLooks, h0_court, .ref g0, h0_letters, h0_stack, h0_law])), (g0, .inr (7, [.ref gY, .ref gF, .ref gP, .int gpn, .int glt, .int gsh, .int gwd, .int gpu, .int gmo])), (gF, .inl (cI, 5, .inl gfF))]) (va_Qi (fun (r : Int32) (u : Unit) => (0 ≤ r.toInt) ∧ (r = zFl (gfF p0.toInt.toNat) p1)) (fun (_ : Unit) (_ : State) => True) (va_A [] sz)) 0 0 (va_A [] sz) := by
  refine Met.ofW (cc := cX8_flatteryFor) (maxL := 3) (ret := (some .int)) (by decide) rfl ?_
  intro p e s m args below meth c s₁ B hml hv
  obtain ⟨hargs, hsz, hP, hK, hT⟩ := hv
  have hx := B.exec
  have hb := B.bytes
  have hr := B.returns
  have hts : ∀ w ∈ wA, w.before args s = true := fun w h => atoms_spec (ws := .code yX8_flatteryFor cX8_flatteryFor 3 (some .int) :: wA) B.pre w (List.mem_cons_of_mem _ h)
  have hown : s.vm.findClass RX8 = some m.cls := findClass_of_methodNamed B.named
  have hlocks := B.notSynchronized
  subst hsz
  have hD : va_D (va_A [] s.heap.size) [] := zD0
  generalize hAe : va_A [] s.heap.size = A at hD ⊢
  have hA : ∀ q : Nat, s.heap.size ≤ q → A q := fun q h => by rw [← hAe]; exact Or.inr h
  have hl := lv_entry ([.ref h0, .int p0, .int p1]) (n := 3) (Nat.le_of_ble_eq_true rfl)
  rw [show entryFrame m args 3 = entryFrame m ([.ref h0, .int p0, .int p1] : List Value).toArray 3 by rw [hargs], lg_entry_eq]
  generalize (lg_sl ([.ref h0, .int p0, .int p1]) ++ List.replicate (3 - (lg_sl ([.ref h0, .int p0, .int p1])).length) Slot.unset).toArray = ls at hl ⊢
  have hl : lv_has ls 3 [(0, .ref h0), (1, .int p0), (2, .int p1)] := hl
  refine zstart (fun H hH => ?_)
  rw [← hH] at hP
  have hS : va_S A s.heap H [] := by rw [hH]; exact va_S.rf
  generalize ([] : List Loc) = locs at hS ⊢
  refine zgen (fun R Q hR hQ => ?_)
  refine lv_iconst (v := 0) hx hb dX8_flatteryFor_0 (by decide) ?_
  refine lv_iload_n hx hb dX8_flatteryFor_1 rfl (lv_at hl 2 rfl) ?_
  refine lv_aload_n hx hb dX8_flatteryFor_2 rfl (lv_at hl 0 rfl) ?_
  refine va_get (D := (dC, dI)) (ci := 8) (v := .ref g0) (C := RX8) (T := TX8) (N := 7) hx hb hts iX8 hown hK hP 0 rfl rfl 3 (by decide) (hts _ qw290) (fun _ h9 => h9) rfl dX8_flatteryFor_3 ?_
  refine va_get (D := (dC, dI)) (ci := 7) (v := .ref gF) (C := RX7) (T := TX7) (N := 9) hx hb hts iX7 hown hK hP 1 rfl rfl 1 (by decide) (hts _ qw224) (fun _ h9 => h9) rfl dX8_flatteryFor_6 ?_
  refine lv_iload_n hx hb dX8_flatteryFor_9 rfl (lv_at hl 1 rfl) ?_
  refine va_iald hx hb hK hP 2 0 rfl rfl (vp_in_iff.mpr ⟨by omega, by omega⟩) dX8_flatteryFor_10 ?_
  refine lv_topi (fun v10 e10 => ?_)
  refine lv_iconst (v := 3) hx hb dX8_flatteryFor_11 (by decide) ?_
  refine lv_idiv hx hb dX8_flatteryFor_12 (by decide) ?_
  refine lv_topi (fun v12 e12 => ?_)
  refine lv_isub hx hb dX8_flatteryFor_13 ?_
  refine lv_topi (fun v13 e13 => ?_)
  refine va_mmax hx hb (by rw [hml]; exact hl.1.symm) hown (hts _ qw633) (hts _ qw634) (hts _ qw112) (hts _ qw635) (by rw [hR]; exact Nat.le_of_ble_eq_true rfl) (by rw [hR]; exact Nat.le_of_ble_eq_true rfl) (Nat.zero_le _) (Nat.zero_le _) dX8_flatteryFor_14 ?_
  refine lv_topi (fun v14 e14 => ?_)
  have zc14_0 : (0 : Int32).toInt = 0 := by decide
  have i14 := zmmax e14
  rw [hQ]
  exact W.iret (v := v14) hx hb hr (fun t ht hW => ⟨⟨v14, (), rfl, ⟨by (try dsimp only); omega, zFl_mk e14 e13 e12 (zIxN e10 (by omega))⟩, trivial⟩, hS.F ht⟩) hS.2.2 dX8_flatteryFor_17
set_option maxHeartbeats 4000000 in
set_option maxRecDepth 100000 in
theorem g_X8_lookOf_n (l : Launch) (dC : Nat → ClassId) (dI : Nat → Nat → Nat) (cI cJ : ClassId) (h0 : Nat) (p0 : Int32) (p1 : Int32) (p2 : Int32) (p3 : Int32) (w1 : Nat) (w2 : Nat) (aC : Nat) (g0 : Nat) (aL : Nat) (aK : Nat) (aR : Nat) (aB : Nat) (aP : Nat) (nb : Int32) (np : Int32) (fb : Nat → Int32) (gY : Nat) (gF : Nat) (gP : Nat) (gpn : Int32) (glt : Int32) (gsh : Int32) (gwd : Int32) (gpu : Int32) (gmo : Int32) (gfF : Nat → Int32) (sz : Nat) (n_p0 : 0 ≤ p0.toInt ∧ p0.toInt ≤ 4) (n_p1 : 0 ≤ p1.toInt ∧ p1.toInt ≤ 5)    : Met l yX8_lookOf (.code yX8_lookOf cX8_lookOf 6 (some .int) :: wA) ({ frames := 2, cells := 0, slots := 0, locals := 52 }) (zP (dC, dI) [(cI, .int), (cJ, .long)] [.ref h0, .int p0, .int p1, .int p2, .int p3] sz [(h0, .inr (8, [.ref w1, .ref w2, .ref aC, .ref g0, .ref aL, .ref aK, .null])), (aC, .inr (1, [.ref aR, .ref aB, .ref aP, .int nb, .int np])), (aB, .inl (cI, 24, .inl fb)), (g0, .inr (7, [.ref gY, .ref gF, .ref gP, .int gpn, .int glt, .int gsh, .int gwd, .int gpu, .int gmo])), (gF, .inl (cI, 5, .inl gfF))]) (va_Qi (fun (r : Int32) (u : Unit) => (0 ≤ r.toInt) ∧ (r.toInt ≤ 9) ∧ (∀ sk mo : Int32, r = zLkv none p2 (fb (4 * p1.toInt.toNat + 2)) p3 sk (gfF p0.toInt.toNat) mo)) (fun (_ : Unit) (_ : State) => True) (va_A [] sz)) 0 0 (va_A [] sz) := by
  refine Met.ofW (cc := cX8_lookOf) (maxL := 6) (ret := (some .int)) (by decide) rfl ?_
  intro p e s m args below meth c s₁ B hml hv
  obtain ⟨hargs, hsz, hP, hK, hT⟩ := hv
  have hx := B.exec
  have hb := B.bytes
  have hr := B.returns
  have hts : ∀ w ∈ wA, w.before args s = true := fun w h => atoms_spec (ws := .code yX8_lookOf cX8_lookOf 6 (some .int) :: wA) B.pre w (List.mem_cons_of_mem _ h)
  have hown : s.vm.findClass RX8 = some m.cls := findClass_of_methodNamed B.named
  have hlocks := B.notSynchronized
  subst hsz
  have hD : va_D (va_A [] s.heap.size) [] := zD0
  generalize hAe : va_A [] s.heap.size = A at hD ⊢
  have hA : ∀ q : Nat, s.heap.size ≤ q → A q := fun q h => by rw [← hAe]; exact Or.inr h
  have hl := lv_entry ([.ref h0, .int p0, .int p1, .int p2, .int p3]) (n := 6) (Nat.le_of_ble_eq_true rfl)
  rw [show entryFrame m args 6 = entryFrame m ([.ref h0, .int p0, .int p1, .int p2, .int p3] : List Value).toArray 6 by rw [hargs], lg_entry_eq]
  generalize (lg_sl ([.ref h0, .int p0, .int p1, .int p2, .int p3]) ++ List.replicate (6 - (lg_sl ([.ref h0, .int p0, .int p1, .int p2, .int p3])).length) Slot.unset).toArray = ls at hl ⊢
  have hl : lv_has ls 6 [(0, .ref h0), (1, .int p0), (2, .int p1), (3, .int p2), (4, .int p3)] := hl
  refine zstart (fun H hH => ?_)
  rw [← hH] at hP
  have hS : va_S A s.heap H [] := by rw [hH]; exact va_S.rf
  generalize ([] : List Loc) = locs at hS ⊢
  refine zgen (fun R Q hR hQ => ?_)
  refine lv_iload_n hx hb dX8_lookOf_0 rfl (lv_at hl 3 rfl) ?_
  refine lv_aload_n hx hb dX8_lookOf_1 rfl (lv_at hl 0 rfl) ?_
  refine lv_iload_n hx hb dX8_lookOf_2 rfl (lv_at hl 1 rfl) ?_
  refine lv_iload hx hb dX8_lookOf_3 (lv_at hl 4 rfl) ?_
  obtain ⟨hPc, hDc⟩ := zc2 (wc := [(h0, .inr (8, [.ref w1, .ref w2, .ref aC, .ref g0, .ref aL, .ref aK, .null])), (g0, .inr (7, [.ref gY, .ref gF, .ref gP, .int gpn, .int glt, .int gsh, .int gwd, .int gpu, .int gmo])), (gF, .inl (cI, 5, .inl gfF))]) hP hT [0, 3, 4] (by decide +kernel) rfl
  have hFc := zfr hS hA
  refine va_calli (va_runV (As := [.int p0, .int p3]) (rest := [.int p2]) ⟨hx, hb, hml, hown, hts⟩ (g_X8_flatteryFor l dC dI cI cJ h0 p0 p3 (.ref w1) (.ref w2) (.ref aC) g0 (.ref aL) (.ref aK) (.null) gY gF gP gpn glt gsh gwd gpu gmo gfF H.size n_p0) (cwV 2 hts (zgV qw661 qw630 qw631 qw105 qw632) rfl rfl rfl hd_X8_flatteryFor ⟨by rw [hR]; exact Nat.le_of_ble_eq_true rfl, by rw [hR]; exact Nat.le_of_ble_eq_true rfl⟩) (zPV hPc hK hDc (va_recv (q := (RX8, TX8, 7)) hK hP (ci := 8) (q0 := 0) rfl rfl)) rfl rfl hl.1 rfl (lv_room (Nat.le_of_ble_eq_true rfl)) dX8_lookOf_5 ⟨Nat.zero_le _, Nat.zero_le _⟩) hS (fun q _ h => hFc q h) hFc (fun v5 u5 t H locs ht hvm hw hB hz1 hk1 hS9 => ?_)
  replace hP := zkeep hP hk1
  replace hS := hS9
  clear hPc hDc hFc hk1 hz1 hvm hS9
  obtain ⟨f5_0, f5_1⟩ : (0 ≤ v5.toInt) ∧ (v5 = zFl (gfF p0.toInt.toNat) p3) := hw
  have F5 := f5_1
  refine lv_iadd hx hb dX8_lookOf_8 ?_
  refine lv_topi (fun v8 e8 => ?_)
  refine lv_aload_n hx hb dX8_lookOf_9 rfl (lv_at hl 0 rfl) ?_
  refine va_get (D := (dC, dI)) (ci := 8) (v := .ref aC) (C := RX8) (T := TX8) (N := 7) hx hb hts iX8 hown hK hP 0 rfl rfl 2 (by decide) (hts _ qw289) (fun _ h9 => h9) rfl dX8_lookOf_10 ?_
  refine lv_iload_n hx hb dX8_lookOf_13 rfl (lv_at hl 2 rfl) ?_
  obtain ⟨hPc, hDc⟩ := zc2 (wc := [(aC, .inr (1, [.ref aR, .ref aB, .ref aP, .int nb, .int np])), (aB, .inl (cI, 24, .inl fb))]) hP hT [1, 2] (by decide +kernel) rfl
  have hFc := zfr hS hA
  refine va_calli (va_runV (As := [.int p1]) (rest := [.int v8]) ⟨hx, hb, hml, hown, hts⟩ (g_X1_wartsOf l dC dI cI cJ aC p1 aR aB aP nb np fb H.size n_p1) (cwV 1 hts (zgV qw662 qw663 qw664 qw102 qw665) rfl rfl rfl hd_X1_wartsOf ⟨by rw [hR]; exact Nat.le_of_ble_eq_true rfl, by rw [hR]; exact Nat.le_of_ble_eq_true rfl⟩) (zPV hPc hK hDc (va_recv (q := (RX1, TX1, 5)) hK hP (ci := 1) (q0 := 1) rfl rfl)) rfl rfl hl.1 rfl (lv_room (Nat.le_of_ble_eq_true rfl)) dX8_lookOf_14 ⟨Nat.zero_le _, Nat.zero_le _⟩) hS (fun q _ h => hFc q h) hFc (fun v14 u14 t H locs ht hvm hw hB hz1 hk1 hS9 => ?_)
  replace hP := zkeep hP hk1
  replace hS := hS9
  clear hPc hDc hFc hk1 hz1 hvm hS9
  have f14_0 : (v14 = fb (4 * p1.toInt.toNat + 2)) := hw
  have F14 := f14_0
  refine lv_iconst (v := 2) hx hb dX8_lookOf_17 (by decide) ?_
  refine lv_idiv hx hb dX8_lookOf_18 (by decide) ?_
  refine lv_topi (fun v18 e18 => ?_)
  refine lv_isub hx hb dX8_lookOf_19 ?_
  refine lv_topi (fun v19 e19 => ?_)
  refine lv_istore (lv' := [(5, .int v19), (0, .ref h0), (1, .int p0), (2, .int p1), (3, .int p2), (4, .int p3)]) hx hb dX8_lookOf_20 hl (by decide) rfl (fun ls hl => ?_)
  refine lv_aload_n hx hb dX8_lookOf_22 rfl (lv_at hl 1 rfl) ?_
  refine va_get (D := (dC, dI)) (ci := 8) (v := .null) (C := RX8) (T := TX8) (N := 7) hx hb hts iX8 hown hK hP 0 rfl rfl 6 (by decide) (hts _ qw293) (fun _ h9 => h9) rfl dX8_lookOf_23 ?_
  refine lv_ifnullN (tgt := 117) hx hb dX8_lookOf_26 (by decide) ?_
  refine lv_iconst (v := 0) hx hb dX8_lookOf_117 (by decide) ?_
  refine lv_bipush (v := 9) hx hb dX8_lookOf_118 (by decide) ?_
  refine lv_iload hx hb dX8_lookOf_120 (lv_at hl 0 rfl) ?_
  refine va_mmin hx hb (by rw [hml]; exact hl.1.symm) hown (hts _ qw679) (hts _ qw569) (hts _ qw112) (hts _ qw570) (by rw [hR]; exact Nat.le_of_ble_eq_true rfl) (by rw [hR]; exact Nat.le_of_ble_eq_true rfl) (Nat.zero_le _) (Nat.zero_le _) dX8_lookOf_122 ?_
  refine lv_topi (fun v122 e122 => ?_)
  have zc122_0 : (9 : Int32).toInt = 9 := by decide
  have i122 := zmmin e122
  refine va_mmax hx hb (by rw [hml]; exact hl.1.symm) hown (hts _ qw633) (hts _ qw634) (hts _ qw112) (hts _ qw635) (by rw [hR]; exact Nat.le_of_ble_eq_true rfl) (by rw [hR]; exact Nat.le_of_ble_eq_true rfl) (Nat.zero_le _) (Nat.zero_le _) dX8_lookOf_125 ?_
  refine lv_topi (fun v125 e125 => ?_)
  have zc125_0 : (0 : Int32).toInt = 0 := by decide
  have i125 := zmmax e125
  rw [hQ]
  exact W.iret (v := v125) hx hb hr (fun t ht hW => ⟨⟨v125, (), rfl, ⟨by (try dsimp only); omega, by (try dsimp only); omega, fun sk mo => zLkv_n e122 e125 (zlk_a e19 e8 e18 F5 F14)⟩, trivial⟩, hS.F ht⟩) hS.2.2 dX8_lookOf_128
set_option maxHeartbeats 4000000 in
set_option maxRecDepth 100000 in
theorem g_X8_lookOf_l (l : Launch) (dC : Nat → ClassId) (dI : Nat → Nat → Nat) (cI cJ : ClassId) (h0 : Nat) (p0 : Int32) (p1 : Int32) (p2 : Int32) (p3 : Int32) (w1 : Nat) (w2 : Nat) (aC : Nat) (g0 : Nat) (aL : Nat) (aK : Nat) (lw : Nat) (aR : Nat) (aB : Nat) (aP : Nat) (nb : Int32) (np : Int32) (fb : Nat → Int32) (fp : Nat → Int32) (gY : Nat) (gF : Nat) (gP : Nat) (gpn : Int32) (glt : Int32) (gsh : Int32) (gwd : Int32) (gpu : Int32) (gmo : Int32) (gfF : Nat → Int32) (fL : Nat → Int32) (fK : Nat → Int32) (lS : Nat) (fS : Nat → Int32) (lk : Nat) (sz : Nat) (n_p0 : 0 ≤ p0.toInt ∧ p0.toInt ≤ 4) (n_p1 : 0 ≤ p1.toInt ∧ p1.toInt ≤ 5) (hlk : lk ≤ 241) (ci_fS_zSt : zSt fS)  : Met l yX8_lookOf (.code yX8_lookOf cX8_lookOf 6 (some .int) :: wA) ({ frames := 2, cells := 0, slots := 0, locals := 52 }) (zP (dC, dI) [(cI, .int), (cJ, .long)] [.ref h0, .int p0, .int p1, .int p2, .int p3] sz [(h0, .inr (8, [.ref w1, .ref w2, .ref aC, .ref g0, .ref aL, .ref aK, .ref lw])), (aC, .inr (1, [.ref aR, .ref aB, .ref aP, .int nb, .int np])), (aB, .inl (cI, 24, .inl fb)), (aP, .inl (cI, 20, .inl fp)), (g0, .inr (7, [.ref gY, .ref gF, .ref gP, .int gpn, .int glt, .int gsh, .int gwd, .int gpu, .int gmo])), (gF, .inl (cI, 5, .inl gfF)), (aL, .inl (cI, 6, .inl fL)), (aK, .inl (cI, 32, .inl fK)), (lw, .inr (4, [.ref lS])), (lS, .inl (cI, lk, .inl fS))]) (va_Qi (fun (r : Int32) (u : (Nat → Int32) × (Nat → Int32)) => (0 ≤ r.toInt) ∧ (r.toInt ≤ 9) ∧ (∀ t : (Int → Int) × Int, zLwC fS lk t → zB5 p2 (fb (4 * p1.toInt.toNat + 2)) p3 (fp (4 * p0.toInt.toNat)) (gfF p0.toInt.toNat) gmo → r = zLkv (some t) p2 (fb (4 * p1.toInt.toNat + 2)) p3 (fp (4 * p0.toInt.toNat)) (gfF p0.toInt.toNat) gmo)) (fun (u : (Nat → Int32) × (Nat → Int32)) (t : State) => va_P (dC, dI) vwCl [(h0, .inr (8, [.ref w1, .ref w2, .ref aC, .ref g0, .ref aL, .ref aK, .ref lw])), (aC, .inr (1, [.ref aR, .ref aB, .ref aP, .int nb, .int np])), (aB, .inl (cI, 24, .inl fb)), (aP, .inl (cI, 20, .inl fp)), (g0, .inr (7, [.ref gY, .ref gF, .ref gP, .int gpn, .int glt, .int gsh, .int gwd, .int gpu, .int gmo])), (gF, .inl (cI, 5, .inl gfF)), (aL, .inl (cI, 6, .inl u.1)), (aK, .inl (cI, 32, .inl u.2)), (lw, .inr (4, [.ref lS])), (lS, .inl (cI, lk, .inl fS))] t.heap ∧ va_D (va_A [(h0, .inr (8, [.ref w1, .ref w2, .ref aC, .ref g0, .ref aL, .ref aK, .ref lw])), (aC, .inr (1, [.ref aR, .ref aB, .ref aP, .int nb, .int np])), (aB, .inl (cI, 24, .inl fb)), (aP, .inl (cI, 20, .inl fp)), (g0, .inr (7, [.ref gY, .ref gF, .ref gP, .int gpn, .int glt, .int gsh, .int gwd, .int gpu, .int gmo])), (gF, .inl (cI, 5, .inl gfF)), (aL, .inl (cI, 6, .inl fL)), (aK, .inl (cI, 32, .inl fK)), (lw, .inr (4, [.ref lS])), (lS, .inl (cI, lk, .inl fS))] sz) [(h0, .inr (8, [.ref w1, .ref w2, .ref aC, .ref g0, .ref aL, .ref aK, .ref lw])), (aC, .inr (1, [.ref aR, .ref aB, .ref aP, .int nb, .int np])), (aB, .inl (cI, 24, .inl fb)), (aP, .inl (cI, 20, .inl fp)), (g0, .inr (7, [.ref gY, .ref gF, .ref gP, .int gpn, .int glt, .int gsh, .int gwd, .int gpu, .int gmo])), (gF, .inl (cI, 5, .inl gfF)), (aL, .inl (cI, 6, .inl u.1)), (aK, .inl (cI, 32, .inl u.2)), (lw, .inr (4, [.ref lS])), (lS, .inl (cI, lk, .inl fS))]) (va_A [(h0, .inr (8, [.ref w1, .ref w2, .ref aC, .ref g0, .ref aL, .ref aK, .ref lw])), (aC, .inr (1, [.ref aR, .ref aB, .ref aP, .int nb, .int np])), (aB, .inl (cI, 24, .inl fb)), (aP, .inl (cI, 20, .inl fp)), (g0, .inr (7, [.ref gY, .ref gF, .ref gP, .int gpn, .int glt, .int gsh, .int gwd, .int gpu, .int gmo])), (gF, .inl (cI, 5, .inl gfF)), (aL, .inl (cI, 6, .inl fL)), (aK, .inl (cI, 32, .inl fK)), (lw, .inr (4, [.ref lS])), (lS, .inl (cI, lk, .inl fS))] sz)) 0 0 (va_A [(h0, .inr (8, [.ref w1, .ref w2, .ref aC, .ref g0, .ref aL, .ref aK, .ref lw])), (aC, .inr (1, [.ref aR, .ref aB, .ref aP, .int nb, .int np])), (aB, .inl (cI, 24, .inl fb)), (aP, .inl (cI, 20, .inl fp)), (g0, .inr (7, [.ref gY, .ref gF, .ref gP, .int gpn, .int glt, .int gsh, .int gwd, .int gpu, .int gmo])), (gF, .inl (cI, 5, .inl gfF)), (aL, .inl (cI, 6, .inl fL)), (aK, .inl (cI, 32, .inl fK)), (lw, .inr (4, [.ref lS])), (lS, .inl (cI, lk, .inl fS))] sz) := by
  refine Met.ofW (cc := cX8_lookOf) (maxL := 6) (ret := (some .int)) (by decide) rfl ?_
  intro p e s m args below meth c s₁ B hml hv
  obtain ⟨hargs, hsz, hP, hK, hT⟩ := hv
  have hx := B.exec
  have hb := B.bytes
  have hr := B.returns
  have hts : ∀ w ∈ wA, w.before args s = true := fun w h => atoms_spec (ws := .code yX8_lookOf cX8_lookOf 6 (some .int) :: wA) B.pre w (List.mem_cons_of_mem _ h)
  have hown : s.vm.findClass RX8 = some m.cls := findClass_of_methodNamed B.named
  have hlocks := B.notSynchronized
  subst hsz
  have hD := hT.self (sz := s.heap.size)
  generalize hAe : va_A [(h0, .inr (8, [.ref w1, .ref w2, .ref aC, .ref g0, .ref aL, .ref aK, .ref lw])), (aC, .inr (1, [.ref aR, .ref aB, .ref aP, .int nb, .int np])), (aB, .inl (cI, 24, .inl fb)), (aP, .inl (cI, 20, .inl fp)), (g0, .inr (7, [.ref gY, .ref gF, .ref gP, .int gpn, .int glt, .int gsh, .int gwd, .int gpu, .int gmo])), (gF, .inl (cI, 5, .inl gfF)), (aL, .inl (cI, 6, .inl fL)), (aK, .inl (cI, 32, .inl fK)), (lw, .inr (4, [.ref lS])), (lS, .inl (cI, lk, .inl fS))] s.heap.size = A at hD ⊢
  have hA : ∀ q : Nat, s.heap.size ≤ q → A q := fun q h => by rw [← hAe]; exact Or.inr h
  have hl := lv_entry ([.ref h0, .int p0, .int p1, .int p2, .int p3]) (n := 6) (Nat.le_of_ble_eq_true rfl)
  rw [show entryFrame m args 6 = entryFrame m ([.ref h0, .int p0, .int p1, .int p2, .int p3] : List Value).toArray 6 by rw [hargs], lg_entry_eq]
  generalize (lg_sl ([.ref h0, .int p0, .int p1, .int p2, .int p3]) ++ List.replicate (6 - (lg_sl ([.ref h0, .int p0, .int p1, .int p2, .int p3])).length) Slot.unset).toArray = ls at hl ⊢
  have hl : lv_has ls 6 [(0, .ref h0), (1, .int p0), (2, .int p1), (3, .int p2), (4, .int p3)] := hl
  refine zstart (fun H hH => ?_)
  rw [← hH] at hP
  have hS : va_S A s.heap H [] := by rw [hH]; exact va_S.rf
  generalize ([] : List Loc) = locs at hS ⊢
  refine zgen (fun R Q hR hQ => ?_)
  refine lv_iload_n hx hb dX8_lookOf_0 rfl (lv_at hl 3 rfl) ?_
  refine lv_aload_n hx hb dX8_lookOf_1 rfl (lv_at hl 0 rfl) ?_
  refine lv_iload_n hx hb dX8_lookOf_2 rfl (lv_at hl 1 rfl) ?_
  refine lv_iload hx hb dX8_lookOf_3 (lv_at hl 4 rfl) ?_
  obtain ⟨hPc, hDc⟩ := zc2 (wc := [(h0, .inr (8, [.ref w1, .ref w2, .ref aC, .ref g0, .ref aL, .ref aK, .ref lw])), (g0, .inr (7, [.ref gY, .ref gF, .ref gP, .int gpn, .int glt, .int gsh, .int gwd, .int gpu, .int gmo])), (gF, .inl (cI, 5, .inl gfF))]) hP hD [0, 4, 5] (by decide +kernel) rfl
  have hFc := zfr hS hA
  refine va_calli (va_runV (As := [.int p0, .int p3]) (rest := [.int p2]) ⟨hx, hb, hml, hown, hts⟩ (g_X8_flatteryFor l dC dI cI cJ h0 p0 p3 (.ref w1) (.ref w2) (.ref aC) g0 (.ref aL) (.ref aK) (.ref lw) gY gF gP gpn glt gsh gwd gpu gmo gfF H.size n_p0) (cwV 2 hts (zgV qw661 qw630 qw631 qw105 qw632) rfl rfl rfl hd_X8_flatteryFor ⟨by rw [hR]; exact Nat.le_of_ble_eq_true rfl, by rw [hR]; exact Nat.le_of_ble_eq_true rfl⟩) (zPV hPc hK hDc (va_recv (q := (RX8, TX8, 7)) hK hP (ci := 8) (q0 := 0) rfl rfl)) rfl rfl hl.1 rfl (lv_room (Nat.le_of_ble_eq_true rfl)) dX8_lookOf_5 ⟨Nat.zero_le _, Nat.zero_le _⟩) hS (fun q _ h => hFc q h) hFc (fun v5 u5 t H locs ht hvm hw hB hz1 hk1 hS9 => ?_)
  replace hP := zkeep hP hk1
  replace hS := hS9
  clear hPc hDc hFc hk1 hz1 hvm hS9
  obtain ⟨f5_0, f5_1⟩ : (0 ≤ v5.toInt) ∧ (v5 = zFl (gfF p0.toInt.toNat) p3) := hw
  have F5 := f5_1
  refine lv_iadd hx hb dX8_lookOf_8 ?_
  refine lv_topi (fun v8 e8 => ?_)
  refine lv_aload_n hx hb dX8_lookOf_9 rfl (lv_at hl 0 rfl) ?_
  refine va_get (D := (dC, dI)) (ci := 8) (v := .ref aC) (C := RX8) (T := TX8) (N := 7) hx hb hts iX8 hown hK hP 0 rfl rfl 2 (by decide) (hts _ qw289) (fun _ h9 => h9) rfl dX8_lookOf_10 ?_
  refine lv_iload_n hx hb dX8_lookOf_13 rfl (lv_at hl 2 rfl) ?_
  obtain ⟨hPc, hDc⟩ := zc2 (wc := [(aC, .inr (1, [.ref aR, .ref aB, .ref aP, .int nb, .int np])), (aB, .inl (cI, 24, .inl fb))]) hP hD [1, 2] (by decide +kernel) rfl
  have hFc := zfr hS hA
  refine va_calli (va_runV (As := [.int p1]) (rest := [.int v8]) ⟨hx, hb, hml, hown, hts⟩ (g_X1_wartsOf l dC dI cI cJ aC p1 aR aB aP nb np fb H.size n_p1) (cwV 1 hts (zgV qw662 qw663 qw664 qw102 qw665) rfl rfl rfl hd_X1_wartsOf ⟨by rw [hR]; exact Nat.le_of_ble_eq_true rfl, by rw [hR]; exact Nat.le_of_ble_eq_true rfl⟩) (zPV hPc hK hDc (va_recv (q := (RX1, TX1, 5)) hK hP (ci := 1) (q0 := 1) rfl rfl)) rfl rfl hl.1 rfl (lv_room (Nat.le_of_ble_eq_true rfl)) dX8_lookOf_14 ⟨Nat.zero_le _, Nat.zero_le _⟩) hS (fun q _ h => hFc q h) hFc (fun v14 u14 t H locs ht hvm hw hB hz1 hk1 hS9 => ?_)
  replace hP := zkeep hP hk1
  replace hS := hS9
  clear hPc hDc hFc hk1 hz1 hvm hS9
  have f14_0 : (v14 = fb (4 * p1.toInt.toNat + 2)) := hw
  have F14 := f14_0
  refine lv_iconst (v := 2) hx hb dX8_lookOf_17 (by decide) ?_
  refine lv_idiv hx hb dX8_lookOf_18 (by decide) ?_
  refine lv_topi (fun v18 e18 => ?_)
  refine lv_isub hx hb dX8_lookOf_19 ?_
  refine lv_topi (fun v19 e19 => ?_)
  refine lv_istore (lv' := [(5, .int v19), (0, .ref h0), (1, .int p0), (2, .int p1), (3, .int p2), (4, .int p3)]) hx hb dX8_lookOf_20 hl (by decide) rfl (fun ls hl => ?_)
  refine lv_aload_n hx hb dX8_lookOf_22 rfl (lv_at hl 1 rfl) ?_
  refine va_get (D := (dC, dI)) (ci := 8) (v := .ref lw) (C := RX8) (T := TX8) (N := 7) hx hb hts iX8 hown hK hP 0 rfl rfl 6 (by decide) (hts _ qw293) (fun _ h9 => h9) rfl dX8_lookOf_23 ?_
  refine lv_ifnull hx hb dX8_lookOf_26 ?_
  refine lv_aload_n hx hb dX8_lookOf_29 rfl (lv_at hl 1 rfl) ?_
  refine va_get (D := (dC, dI)) (ci := 8) (v := .ref aL) (C := RX8) (T := TX8) (N := 7) hx hb hts iX8 hown hK hP 0 rfl rfl 4 (by decide) (hts _ qw291) (fun _ h9 => h9) rfl dX8_lookOf_30 ?_
  refine lv_iconst (v := 0) hx hb dX8_lookOf_33 (by decide) ?_
  refine lv_iload_n hx hb dX8_lookOf_34 rfl (lv_at hl 4 rfl) ?_
  refine va_iast hx hb hK hP hD hS 6 0 rfl rfl (by unfold vp_in; decide) dX8_lookOf_35 (fun H locs hP9 hD9 hS9 => ?_)
  clear hP hD hS
  obtain ⟨v35_f, e35⟩ : ∃ g : Nat → Int32, g = upd fL (0 : Int32).toNatClampNeg p2 := ⟨_, rfl⟩
  rw [← e35] at hP9 hD9
  obtain ⟨hP, hD⟩ := zst (wX := [(h0, .inr (8, [.ref w1, .ref w2, .ref aC, .ref g0, .ref aL, .ref aK, .ref lw])), (aC, .inr (1, [.ref aR, .ref aB, .ref aP, .int nb, .int np])), (aB, .inl (cI, 24, .inl fb)), (aP, .inl (cI, 20, .inl fp)), (g0, .inr (7, [.ref gY, .ref gF, .ref gP, .int gpn, .int glt, .int gsh, .int gwd, .int gpu, .int gmo])), (gF, .inl (cI, 5, .inl gfF)), (aL, .inl (cI, 6, .inl v35_f)), (aK, .inl (cI, 32, .inl fK)), (lw, .inr (4, [.ref lS])), (lS, .inl (cI, lk, .inl fS))]) hP9 hD9 rfl
  have hS := hS9
  clear hP9 hD9 hS9
  refine lv_aload_n hx hb dX8_lookOf_36 rfl (lv_at hl 1 rfl) ?_
  refine va_get (D := (dC, dI)) (ci := 8) (v := .ref aL) (C := RX8) (T := TX8) (N := 7) hx hb hts iX8 hown hK hP 0 rfl rfl 4 (by decide) (hts _ qw291) (fun _ h9 => h9) rfl dX8_lookOf_37 ?_
  refine lv_iconst (v := 1) hx hb dX8_lookOf_40 (by decide) ?_
  refine lv_aload_n hx hb dX8_lookOf_41 rfl (lv_at hl 1 rfl) ?_
  refine va_get (D := (dC, dI)) (ci := 8) (v := .ref aC) (C := RX8) (T := TX8) (N := 7) hx hb hts iX8 hown hK hP 0 rfl rfl 2 (by decide) (hts _ qw289) (fun _ h9 => h9) rfl dX8_lookOf_42 ?_
  refine lv_iload_n hx hb dX8_lookOf_45 rfl (lv_at hl 3 rfl) ?_
  obtain ⟨hPc, hDc⟩ := zc2 (wc := [(aC, .inr (1, [.ref aR, .ref aB, .ref aP, .int nb, .int np])), (aB, .inl (cI, 24, .inl fb))]) hP hD [1, 2] (by decide +kernel) rfl
  have hFc := zfr hS hA
  refine va_calli (va_runV (As := [.int p1]) (rest := [.int 1, .ref aL]) ⟨hx, hb, hml, hown, hts⟩ (g_X1_wartsOf l dC dI cI cJ aC p1 aR aB aP nb np fb H.size n_p1) (cwV 1 hts (zgV qw662 qw663 qw664 qw102 qw665) rfl rfl rfl hd_X1_wartsOf ⟨by rw [hR]; exact Nat.le_of_ble_eq_true rfl, by rw [hR]; exact Nat.le_of_ble_eq_true rfl⟩) (zPV hPc hK hDc (va_recv (q := (RX1, TX1, 5)) hK hP (ci := 1) (q0 := 1) rfl rfl)) rfl rfl hl.1 rfl (lv_room (Nat.le_of_ble_eq_true rfl)) dX8_lookOf_46 ⟨Nat.zero_le _, Nat.zero_le _⟩) hS (fun q _ h => hFc q h) hFc (fun v46 u46 t H locs ht hvm hw hB hz1 hk1 hS9 => ?_)
  replace hP := zkeep hP hk1
  replace hS := hS9
  clear hPc hDc hFc hk1 hz1 hvm hS9
  have f46_0 : (v46 = fb (4 * p1.toInt.toNat + 2)) := hw
  have F46 := f46_0
  refine va_iast hx hb hK hP hD hS 6 0 rfl rfl (by unfold vp_in; decide) dX8_lookOf_49 (fun H locs hP9 hD9 hS9 => ?_)
  clear hP hD hS
  obtain ⟨v49_f, e49⟩ : ∃ g : Nat → Int32, g = upd v35_f (1 : Int32).toNatClampNeg v46 := ⟨_, rfl⟩
  rw [← e49] at hP9 hD9
  obtain ⟨hP, hD⟩ := zst (wX := [(h0, .inr (8, [.ref w1, .ref w2, .ref aC, .ref g0, .ref aL, .ref aK, .ref lw])), (aC, .inr (1, [.ref aR, .ref aB, .ref aP, .int nb, .int np])), (aB, .inl (cI, 24, .inl fb)), (aP, .inl (cI, 20, .inl fp)), (g0, .inr (7, [.ref gY, .ref gF, .ref gP, .int gpn, .int glt, .int gsh, .int gwd, .int gpu, .int gmo])), (gF, .inl (cI, 5, .inl gfF)), (aL, .inl (cI, 6, .inl v49_f)), (aK, .inl (cI, 32, .inl fK)), (lw, .inr (4, [.ref lS])), (lS, .inl (cI, lk, .inl fS))]) hP9 hD9 rfl
  have hS := hS9
  clear hP9 hD9 hS9
  refine lv_aload_n hx hb dX8_lookOf_50 rfl (lv_at hl 1 rfl) ?_
  refine va_get (D := (dC, dI)) (ci := 8) (v := .ref aL) (C := RX8) (T := TX8) (N := 7) hx hb hts iX8 hown hK hP 0 rfl rfl 4 (by decide) (hts _ qw291) (fun _ h9 => h9) rfl dX8_lookOf_51 ?_
  refine lv_iconst (v := 2) hx hb dX8_lookOf_54 (by decide) ?_
  refine lv_iload hx hb dX8_lookOf_55 (lv_at hl 5 rfl) ?_
  refine va_iast hx hb hK hP hD hS 6 0 rfl rfl (by unfold vp_in; decide) dX8_lookOf_57 (fun H locs hP9 hD9 hS9 => ?_)
  clear hP hD hS
  obtain ⟨v57_f, e57⟩ : ∃ g : Nat → Int32, g = upd v49_f (2 : Int32).toNatClampNeg p3 := ⟨_, rfl⟩
  rw [← e57] at hP9 hD9
  obtain ⟨hP, hD⟩ := zst (wX := [(h0, .inr (8, [.ref w1, .ref w2, .ref aC, .ref g0, .ref aL, .ref aK, .ref lw])), (aC, .inr (1, [.ref aR, .ref aB, .ref aP, .int nb, .int np])), (aB, .inl (cI, 24, .inl fb)), (aP, .inl (cI, 20, .inl fp)), (g0, .inr (7, [.ref gY, .ref gF, .ref gP, .int gpn, .int glt, .int gsh, .int gwd, .int gpu, .int gmo])), (gF, .inl (cI, 5, .inl gfF)), (aL, .inl (cI, 6, .inl v57_f)), (aK, .inl (cI, 32, .inl fK)), (lw, .inr (4, [.ref lS])), (lS, .inl (cI, lk, .inl fS))]) hP9 hD9 rfl
  have hS := hS9
  clear hP9 hD9 hS9
  refine lv_aload_n hx hb dX8_lookOf_58 rfl (lv_at hl 1 rfl) ?_
  refine va_get (D := (dC, dI)) (ci := 8) (v := .ref aL) (C := RX8) (T := TX8) (N := 7) hx hb hts iX8 hown hK hP 0 rfl rfl 4 (by decide) (hts _ qw291) (fun _ h9 => h9) rfl dX8_lookOf_59 ?_
  refine lv_iconst (v := 3) hx hb dX8_lookOf_62 (by decide) ?_
  refine lv_aload_n hx hb dX8_lookOf_63 rfl (lv_at hl 1 rfl) ?_
  refine va_get (D := (dC, dI)) (ci := 8) (v := .ref aC) (C := RX8) (T := TX8) (N := 7) hx hb hts iX8 hown hK hP 0 rfl rfl 2 (by decide) (hts _ qw289) (fun _ h9 => h9) rfl dX8_lookOf_64 ?_
  refine lv_iload_n hx hb dX8_lookOf_67 rfl (lv_at hl 2 rfl) ?_
  obtain ⟨hPc, hDc⟩ := zc2 (wc := [(aC, .inr (1, [.ref aR, .ref aB, .ref aP, .int nb, .int np])), (aP, .inl (cI, 20, .inl fp))]) hP hD [1, 3] (by decide +kernel) rfl
  have hFc := zfr hS hA
  refine va_calli (va_runV (As := [.int p0]) (rest := [.int 3, .ref aL]) ⟨hx, hb, hml, hown, hts⟩ (g_X1_skillOf l dC dI cI cJ aC p0 aR aB aP nb np fp H.size n_p0) (cwV 1 hts (zgV qw667 qw605 qw606 qw102 qw607) rfl rfl rfl hd_X1_skillOf ⟨by rw [hR]; exact Nat.le_of_ble_eq_true rfl, by rw [hR]; exact Nat.le_of_ble_eq_true rfl⟩) (zPV hPc hK hDc (va_recv (q := (RX1, TX1, 5)) hK hP (ci := 1) (q0 := 1) rfl rfl)) rfl rfl hl.1 rfl (lv_room (Nat.le_of_ble_eq_true rfl)) dX8_lookOf_68 ⟨Nat.zero_le _, Nat.zero_le _⟩) hS (fun q _ h => hFc q h) hFc (fun v68 u68 t H locs ht hvm hw hB hz1 hk1 hS9 => ?_)
  replace hP := zkeep hP hk1
  replace hS := hS9
  clear hPc hDc hFc hk1 hz1 hvm hS9
  have f68_0 : (v68 = fp (4 * p0.toInt.toNat)) := hw
  have F68 := f68_0
  refine va_iast hx hb hK hP hD hS 6 0 rfl rfl (by unfold vp_in; decide) dX8_lookOf_71 (fun H locs hP9 hD9 hS9 => ?_)
  clear hP hD hS
  obtain ⟨v71_f, e71⟩ : ∃ g : Nat → Int32, g = upd v57_f (3 : Int32).toNatClampNeg v68 := ⟨_, rfl⟩
  rw [← e71] at hP9 hD9
  obtain ⟨hP, hD⟩ := zst (wX := [(h0, .inr (8, [.ref w1, .ref w2, .ref aC, .ref g0, .ref aL, .ref aK, .ref lw])), (aC, .inr (1, [.ref aR, .ref aB, .ref aP, .int nb, .int np])), (aB, .inl (cI, 24, .inl fb)), (aP, .inl (cI, 20, .inl fp)), (g0, .inr (7, [.ref gY, .ref gF, .ref gP, .int gpn, .int glt, .int gsh, .int gwd, .int gpu, .int gmo])), (gF, .inl (cI, 5, .inl gfF)), (aL, .inl (cI, 6, .inl v71_f)), (aK, .inl (cI, 32, .inl fK)), (lw, .inr (4, [.ref lS])), (lS, .inl (cI, lk, .inl fS))]) hP9 hD9 rfl
  have hS := hS9
  clear hP9 hD9 hS9
  refine lv_aload_n hx hb dX8_lookOf_72 rfl (lv_at hl 1 rfl) ?_
  refine va_get (D := (dC, dI)) (ci := 8) (v := .ref aL) (C := RX8) (T := TX8) (N := 7) hx hb hts iX8 hown hK hP 0 rfl rfl 4 (by decide) (hts _ qw291) (fun _ h9 => h9) rfl dX8_lookOf_73 ?_
  refine lv_iconst (v := 4) hx hb dX8_lookOf_76 (by decide) ?_
  refine lv_aload_n hx hb dX8_lookOf_77 rfl (lv_at hl 1 rfl) ?_
  refine va_get (D := (dC, dI)) (ci := 8) (v := .ref g0) (C := RX8) (T := TX8) (N := 7) hx hb hts iX8 hown hK hP 0 rfl rfl 3 (by decide) (hts _ qw290) (fun _ h9 => h9) rfl dX8_lookOf_78 ?_
  refine va_get (D := (dC, dI)) (ci := 7) (v := .ref gF) (C := RX7) (T := TX7) (N := 9) hx hb hts iX7 hown hK hP 4 rfl rfl 1 (by decide) (hts _ qw224) (fun _ h9 => h9) rfl dX8_lookOf_81 ?_
  refine lv_iload_n hx hb dX8_lookOf_84 rfl (lv_at hl 2 rfl) ?_
  refine va_iald hx hb hK hP 5 0 rfl rfl (vp_in_iff.mpr ⟨by omega, by omega⟩) dX8_lookOf_85 ?_
  refine lv_topi (fun v85 e85 => ?_)
  refine va_iast hx hb hK hP hD hS 6 0 rfl rfl (by unfold vp_in; decide) dX8_lookOf_86 (fun H locs hP9 hD9 hS9 => ?_)
  clear hP hD hS
  obtain ⟨v86_f, e86⟩ : ∃ g : Nat → Int32, g = upd v71_f (4 : Int32).toNatClampNeg v85 := ⟨_, rfl⟩
  rw [← e86] at hP9 hD9
  obtain ⟨hP, hD⟩ := zst (wX := [(h0, .inr (8, [.ref w1, .ref w2, .ref aC, .ref g0, .ref aL, .ref aK, .ref lw])), (aC, .inr (1, [.ref aR, .ref aB, .ref aP, .int nb, .int np])), (aB, .inl (cI, 24, .inl fb)), (aP, .inl (cI, 20, .inl fp)), (g0, .inr (7, [.ref gY, .ref gF, .ref gP, .int gpn, .int glt, .int gsh, .int gwd, .int gpu, .int gmo])), (gF, .inl (cI, 5, .inl gfF)), (aL, .inl (cI, 6, .inl v86_f)), (aK, .inl (cI, 32, .inl fK)), (lw, .inr (4, [.ref lS])), (lS, .inl (cI, lk, .inl fS))]) hP9 hD9 rfl
  have hS := hS9
  clear hP9 hD9 hS9
  refine lv_aload_n hx hb dX8_lookOf_87 rfl (lv_at hl 1 rfl) ?_
  refine va_get (D := (dC, dI)) (ci := 8) (v := .ref aL) (C := RX8) (T := TX8) (N := 7) hx hb hts iX8 hown hK hP 0 rfl rfl 4 (by decide) (hts _ qw291) (fun _ h9 => h9) rfl dX8_lookOf_88 ?_
  refine lv_iconst (v := 5) hx hb dX8_lookOf_91 (by decide) ?_
  refine lv_aload_n hx hb dX8_lookOf_92 rfl (lv_at hl 1 rfl) ?_
  refine va_get (D := (dC, dI)) (ci := 8) (v := .ref g0) (C := RX8) (T := TX8) (N := 7) hx hb hts iX8 hown hK hP 0 rfl rfl 3 (by decide) (hts _ qw290) (fun _ h9 => h9) rfl dX8_lookOf_93 ?_
  refine va_get (D := (dC, dI)) (ci := 7) (v := .int gmo) (C := RX7) (T := TX7) (N := 9) hx hb hts iX7 hown hK hP 4 rfl rfl 8 (by decide) (hts _ qw241) (fun _ h9 => h9) rfl dX8_lookOf_96 ?_
  refine va_iast hx hb hK hP hD hS 6 0 rfl rfl (by unfold vp_in; decide) dX8_lookOf_99 (fun H locs hP9 hD9 hS9 => ?_)
  clear hP hD hS
  obtain ⟨v99_f, e99⟩ : ∃ g : Nat → Int32, g = upd v86_f (5 : Int32).toNatClampNeg gmo := ⟨_, rfl⟩
  rw [← e99] at hP9 hD9
  obtain ⟨hP, hD⟩ := zst (wX := [(h0, .inr (8, [.ref w1, .ref w2, .ref aC, .ref g0, .ref aL, .ref aK, .ref lw])), (aC, .inr (1, [.ref aR, .ref aB, .ref aP, .int nb, .int np])), (aB, .inl (cI, 24, .inl fb)), (aP, .inl (cI, 20, .inl fp)), (g0, .inr (7, [.ref gY, .ref gF, .ref gP, .int gpn, .int glt, .int gsh, .int gwd, .int gpu, .int gmo])), (gF, .inl (cI, 5, .inl gfF)), (aL, .inl (cI, 6, .inl v99_f)), (aK, .inl (cI, 32, .inl fK)), (lw, .inr (4, [.ref lS])), (lS, .inl (cI, lk, .inl fS))]) hP9 hD9 rfl
  have hS := hS9
  clear hP9 hD9 hS9
  refine lv_aload_n hx hb dX8_lookOf_100 rfl (lv_at hl 1 rfl) ?_
  refine va_get (D := (dC, dI)) (ci := 8) (v := .ref lw) (C := RX8) (T := TX8) (N := 7) hx hb hts iX8 hown hK hP 0 rfl rfl 6 (by decide) (hts _ qw293) (fun _ h9 => h9) rfl dX8_lookOf_101 ?_
  refine lv_aload_n hx hb dX8_lookOf_104 rfl (lv_at hl 1 rfl) ?_
  refine va_get (D := (dC, dI)) (ci := 8) (v := .ref aL) (C := RX8) (T := TX8) (N := 7) hx hb hts iX8 hown hK hP 0 rfl rfl 4 (by decide) (hts _ qw291) (fun _ h9 => h9) rfl dX8_lookOf_105 ?_
  refine lv_aload_n hx hb dX8_lookOf_108 rfl (lv_at hl 1 rfl) ?_
  refine va_get (D := (dC, dI)) (ci := 8) (v := .ref aK) (C := RX8) (T := TX8) (N := 7) hx hb hts iX8 hown hK hP 0 rfl rfl 5 (by decide) (hts _ qw292) (fun _ h9 => h9) rfl dX8_lookOf_109 ?_
  obtain ⟨hPc, hDc, hFc⟩ := zc3 (wc := [(lw, .inr (4, [.ref lS])), (lS, .inl (cI, lk, .inl fS)), (aL, .inl (cI, 6, .inl v99_f)), (aK, .inl (cI, 32, .inl fK))]) hP hD hS hA [8, 9, 6, 7] (by decide +kernel) rfl
  refine va_calli (va_runV (As := [.ref aL, .ref aK]) (rest := []) ⟨hx, hb, hml, hown, hts⟩ (g_X4_answer l dC dI cI cJ lw aL aK lS fS lk v99_f fK H.size (hlk) ci_fS_zSt) (cwV 2 hts (zgV qw668 qw669 qw670 qw110 qw671) rfl rfl rfl hd_X4_answer ⟨by rw [hR]; exact Nat.le_of_ble_eq_true rfl, by rw [hR]; exact Nat.le_of_ble_eq_true rfl⟩) (zPV hPc hK hDc (va_recv (q := (RX4, TX4, 1)) hK hP (ci := 4) (q0 := 8) rfl rfl)) rfl rfl hl.1 rfl (lv_room (Nat.le_of_ble_eq_true rfl)) dX8_lookOf_112 ⟨Nat.zero_le _, Nat.zero_le _⟩) hS (fun q _ h => hFc q h) hFc (fun v112 u112 t H locs ht hvm hw hB hz1 hk1 hS9 => ?_)
  obtain ⟨u112_0, rfl⟩ : ∃ z, z = u112 := ⟨_, rfl⟩
  obtain ⟨hP9, hD9⟩ := zj2 (wX := [(h0, .inr (8, [.ref w1, .ref w2, .ref aC, .ref g0, .ref aL, .ref aK, .ref lw])), (aC, .inr (1, [.ref aR, .ref aB, .ref aP, .int nb, .int np])), (aB, .inl (cI, 24, .inl fb)), (aP, .inl (cI, 20, .inl fp)), (g0, .inr (7, [.ref gY, .ref gF, .ref gP, .int gpn, .int glt, .int gsh, .int gwd, .int gpu, .int gmo])), (gF, .inl (cI, 5, .inl gfF)), (aL, .inl (cI, 6, .inl v99_f)), (aK, .inl (cI, 32, .inl u112_0)), (lw, .inr (4, [.ref lS])), (lS, .inl (cI, lk, .inl fS))]) hP hD hk1 hFc ht hB [8, 9, 6, 7] [(false, 0), (false, 1), (false, 2), (false, 3), (false, 4), (false, 5), (true, 2), (true, 3), (true, 0), (true, 1)] rfl (by decide +kernel) (by decide +kernel) rfl
  clear hP hD hS hPc hDc hFc hB hk1 hz1 hvm
  have hP := hP9
  have hD := hD9
  have hS := hS9
  clear hP9 hD9 hS9
  have f112_0 : (∀ tk : List (Int × Int), zTok fS lk tk → v112 = cRun v99_f tk false []) := hw
  have F112 := f112_0
  refine lv_istore (lv' := [(5, .int v112), (0, .ref h0), (1, .int p0), (2, .int p1), (3, .int p2), (4, .int p3)]) hx hb dX8_lookOf_115 hl (by decide) rfl (fun ls hl => ?_)
  refine lv_iconst (v := 0) hx hb dX8_lookOf_117 (by decide) ?_
  refine lv_bipush (v := 9) hx hb dX8_lookOf_118 (by decide) ?_
  refine lv_iload hx hb dX8_lookOf_120 (lv_at hl 0 rfl) ?_
  refine va_mmin hx hb (by rw [hml]; exact hl.1.symm) hown (hts _ qw679) (hts _ qw569) (hts _ qw112) (hts _ qw570) (by rw [hR]; exact Nat.le_of_ble_eq_true rfl) (by rw [hR]; exact Nat.le_of_ble_eq_true rfl) (Nat.zero_le _) (Nat.zero_le _) dX8_lookOf_122 ?_
  refine lv_topi (fun v122 e122 => ?_)
  have zc122_0 : (9 : Int32).toInt = 9 := by decide
  have i122 := zmmin e122
  refine va_mmax hx hb (by rw [hml]; exact hl.1.symm) hown (hts _ qw633) (hts _ qw634) (hts _ qw112) (hts _ qw635) (by rw [hR]; exact Nat.le_of_ble_eq_true rfl) (by rw [hR]; exact Nat.le_of_ble_eq_true rfl) (Nat.zero_le _) (Nat.zero_le _) dX8_lookOf_125 ?_
  refine lv_topi (fun v125 e125 => ?_)
  have zc125_0 : (0 : Int32).toInt = 0 := by decide
  have i125 := zmmax e125
  rw [hQ]
  exact W.iret (v := v125) hx hb hr (fun t ht hW => ⟨⟨v125, (v99_f, u112_0), rfl, ⟨by (try dsimp only); omega, by (try dsimp only); omega, fun t ht hb => zLkv_c ht hb (fun i hi => (zlet6 e35 e49 e57 e71 e86 e99 i hi).trans (by rw [F46, F68, zIxN (n := p0.toInt.toNat) e85 (by omega)])) F112 e122 e125⟩, ⟨by rw [ht]; exact hP, hD⟩⟩, hS.F ht⟩) hS.2.2 dX8_lookOf_128
set_option maxHeartbeats 4000000 in
set_option maxRecDepth 100000 in
theorem g_X8_showOf_n (l : Launch) (dC : Nat → ClassId) (dI : Nat → Nat → Nat) (cI cJ : ClassId) (h0 : Nat) (p0 : Int32) (p1 : Int32) (p2 : Int32) (w1 : Nat) (w2 : Nat) (aC : Nat) (g0 : Nat) (aL : Nat) (aK : Nat) (aR : Nat) (aB : Nat) (aP : Nat) (nb : Int32) (np : Int32) (fb : Nat → Int32) (fp : Nat → Int32) (gY : Nat) (gF : Nat) (gP : Nat) (gpn : Int32) (glt : Int32) (gsh : Int32) (gwd : Int32) (gpu : Int32) (gmo : Int32) (gfY : Nat → Int32) (gfF : Nat → Int32) (gfP : Nat → Int32) (sz : Nat) (n_gpn : 0 ≤ gpn.toInt ∧ gpn.toInt ≤ 20) (n_p0 : 0 ≤ p0.toInt ∧ p0.toInt ≤ 4) (n_p1 : 0 ≤ p1.toInt ∧ p1.toInt ≤ 5)  (ci_gfP_zPo : zPo gfP)  : Met l yX8_showOf (.code yX8_showOf cX8_showOf 7 (some .int) :: wA) ({ frames := 3, cells := 0, slots := 0, locals := 77 }) (zP (dC, dI) [(cI, .int), (cJ, .long)] [.ref h0, .int p0, .int p1, .int p2] sz [(h0, .inr (8, [.ref w1, .ref w2, .ref aC, .ref g0, .ref aL, .ref aK, .null])), (aC, .inr (1, [.ref aR, .ref aB, .ref aP, .int nb, .int np])), (aB, .inl (cI, 24, .inl fb)), (aP, .inl (cI, 20, .inl fp)), (g0, .inr (7, [.ref gY, .ref gF, .ref gP, .int gpn, .int glt, .int gsh, .int gwd, .int gpu, .int gmo])), (gY, .inl (cI, 6, .inl gfY)), (gF, .inl (cI, 5, .inl gfF)), (gP, .inl (cI, 80, .inl gfP))]) (va_Qi (fun (r : Int32) (u : Unit) => (0 ≤ r.toInt) ∧ (r.toInt ≤ 9) ∧ (∀ sk mo : Int32, r = zSh (fp (4 * p0.toInt.toNat + 3)) (zLat gfP p0 gpn.toInt.toNat) (zLkv none p2 (fb (4 * p1.toInt.toNat + 2)) (gfY p1.toInt.toNat) sk (gfF p0.toInt.toNat) mo))) (fun (_ : Unit) (_ : State) => True) (va_A [] sz)) 0 0 (va_A [] sz) := by
  refine Met.ofW (cc := cX8_showOf) (maxL := 7) (ret := (some .int)) (by decide) rfl ?_
  intro p e s m args below meth c s₁ B hml hv
  obtain ⟨hargs, hsz, hP, hK, hT⟩ := hv
  have hx := B.exec
  have hb := B.bytes
  have hr := B.returns
  have hts : ∀ w ∈ wA, w.before args s = true := fun w h => atoms_spec (ws := .code yX8_showOf cX8_showOf 7 (some .int) :: wA) B.pre w (List.mem_cons_of_mem _ h)
  have hown : s.vm.findClass RX8 = some m.cls := findClass_of_methodNamed B.named
  have hlocks := B.notSynchronized
  subst hsz
  have hD : va_D (va_A [] s.heap.size) [] := zD0
  generalize hAe : va_A [] s.heap.size = A at hD ⊢
  have hA : ∀ q : Nat, s.heap.size ≤ q → A q := fun q h => by rw [← hAe]; exact Or.inr h
  have hl := lv_entry ([.ref h0, .int p0, .int p1, .int p2]) (n := 7) (Nat.le_of_ble_eq_true rfl)
  rw [show entryFrame m args 7 = entryFrame m ([.ref h0, .int p0, .int p1, .int p2] : List Value).toArray 7 by rw [hargs], lg_entry_eq]
  generalize (lg_sl ([.ref h0, .int p0, .int p1, .int p2]) ++ List.replicate (7 - (lg_sl ([.ref h0, .int p0, .int p1, .int p2])).length) Slot.unset).toArray = ls at hl ⊢
  have hl : lv_has ls 7 [(0, .ref h0), (1, .int p0), (2, .int p1), (3, .int p2)] := hl
  refine zstart (fun H hH => ?_)
  rw [← hH] at hP
  have hS : va_S A s.heap H [] := by rw [hH]; exact va_S.rf
  generalize ([] : List Loc) = locs at hS ⊢
  refine zgen (fun R Q hR hQ => ?_)
  refine lv_aload_n hx hb dX8_showOf_0 rfl (lv_at hl 0 rfl) ?_
  refine va_get (D := (dC, dI)) (ci := 8) (v := .ref aC) (C := RX8) (T := TX8) (N := 7) hx hb hts iX8 hown hK hP 0 rfl rfl 2 (by decide) (hts _ qw289) (fun _ h9 => h9) rfl dX8_showOf_1 ?_
  refine lv_iload_n hx hb dX8_showOf_4 rfl (lv_at hl 1 rfl) ?_
  obtain ⟨hPc, hDc⟩ := zc2 (wc := [(aC, .inr (1, [.ref aR, .ref aB, .ref aP, .int nb, .int np])), (aP, .inl (cI, 20, .inl fp))]) hP hT [1, 3] (by decide +kernel) rfl
  have hFc := zfr hS hA
  refine va_calli (va_runV (As := [.int p0]) (rest := []) ⟨hx, hb, hml, hown, hts⟩ (g_X1_kindOf l dC dI cI cJ aC p0 aR aB aP nb np fp H.size n_p0) (cwV 1 hts (zgV qw647 qw614 qw615 qw102 qw616) rfl rfl rfl hd_X1_kindOf ⟨by rw [hR]; exact Nat.le_of_ble_eq_true rfl, by rw [hR]; exact Nat.le_of_ble_eq_true rfl⟩) (zPV hPc hK hDc (va_recv (q := (RX1, TX1, 5)) hK hP (ci := 1) (q0 := 1) rfl rfl)) rfl rfl hl.1 rfl (lv_room (Nat.le_of_ble_eq_true rfl)) dX8_showOf_5 ⟨Nat.zero_le _, Nat.zero_le _⟩) hS (fun q _ h => hFc q h) hFc (fun v5 u5 t H locs ht hvm hw hB hz1 hk1 hS9 => ?_)
  replace hP := zkeep hP hk1
  replace hS := hS9
  clear hPc hDc hFc hk1 hz1 hvm hS9
  have f5_0 : (v5 = fp (4 * p0.toInt.toNat + 3)) := hw
  have F5 := f5_0
  refine lv_istore (lv' := [(4, .int v5), (0, .ref h0), (1, .int p0), (2, .int p1), (3, .int p2)]) hx hb dX8_showOf_8 hl (by decide) rfl (fun ls hl => ?_)
  refine lv_iload hx hb dX8_showOf_10 (lv_at hl 0 rfl) ?_
  refine lv_iconst (v := 3) hx hb dX8_showOf_12 (by decide) ?_
  refine lv_icmp_ne (tgt := 27) hx hb dX8_showOf_13 (by decide) (fun c13 => ?_) (fun c13 => ?_)
  · have c13 : ¬ v5.toInt = 3 := z6 rfl (by decide) c13
    refine lv_iconst (v := (-1)) hx hb dX8_showOf_27 (by decide) ?_
    refine lv_istore (lv' := [(5, .int (-1)), (4, .int v5), (0, .ref h0), (1, .int p0), (2, .int p1), (3, .int p2)]) hx hb dX8_showOf_28 hl (by decide) rfl (fun ls hl => ?_)
    refine lv_iload hx hb dX8_showOf_30 (lv_at hl 0 rfl) ?_
    refine lv_iconst (v := (-1)) hx hb dX8_showOf_32 (by decide) ?_
    refine lv_icmp_eq (tgt := 47) hx hb dX8_showOf_33 (by decide) (fun _ => ?_) (fun c => absurd (by decide) c)
    refine lv_aload_n hx hb dX8_showOf_47 rfl (lv_at hl 2 rfl) ?_
    refine lv_iload_n hx hb dX8_showOf_48 rfl (lv_at hl 3 rfl) ?_
    refine lv_iload_n hx hb dX8_showOf_49 rfl (lv_at hl 4 rfl) ?_
    refine lv_iload_n hx hb dX8_showOf_50 rfl (lv_at hl 5 rfl) ?_
    refine lv_aload_n hx hb dX8_showOf_51 rfl (lv_at hl 2 rfl) ?_
    refine va_get (D := (dC, dI)) (ci := 8) (v := .ref g0) (C := RX8) (T := TX8) (N := 7) hx hb hts iX8 hown hK hP 0 rfl rfl 3 (by decide) (hts _ qw290) (fun _ h9 => h9) rfl dX8_showOf_52 ?_
    refine va_get (D := (dC, dI)) (ci := 7) (v := .ref gY) (C := RX7) (T := TX7) (N := 9) hx hb hts iX7 hown hK hP 4 rfl rfl 0 (by decide) (hts _ qw221) (fun _ h9 => h9) rfl dX8_showOf_55 ?_
    refine lv_iload_n hx hb dX8_showOf_58 rfl (lv_at hl 4 rfl) ?_
    refine va_iald hx hb hK hP 5 0 rfl rfl (vp_in_iff.mpr ⟨by omega, by omega⟩) dX8_showOf_59 ?_
    refine lv_topi (fun v59 e59 => ?_)
    obtain ⟨hPc, hDc⟩ := zc2 (wc := [(h0, .inr (8, [.ref w1, .ref w2, .ref aC, .ref g0, .ref aL, .ref aK, .null])), (aC, .inr (1, [.ref aR, .ref aB, .ref aP, .int nb, .int np])), (aB, .inl (cI, 24, .inl fb)), (g0, .inr (7, [.ref gY, .ref gF, .ref gP, .int gpn, .int glt, .int gsh, .int gwd, .int gpu, .int gmo])), (gF, .inl (cI, 5, .inl gfF))]) hP hT [0, 1, 2, 4, 6] (by decide +kernel) rfl
    have hFc := zfr hS hA
    refine va_calli (va_runV (As := [.int p0, .int p1, .int p2, .int v59]) (rest := []) ⟨hx, hb, hml, hown, hts⟩ (g_X8_lookOf_n l dC dI cI cJ h0 p0 p1 p2 v59 w1 w2 aC g0 aL aK aR aB aP nb np fb gY gF gP gpn glt gsh gwd gpu gmo gfF H.size n_p0 n_p1) (cwV 4 hts (zgV qw657 qw658 qw659 qw105 qw660) rfl rfl rfl hd_X8_lookOf ⟨by rw [hR]; exact Nat.le_of_ble_eq_true rfl, by rw [hR]; exact Nat.le_of_ble_eq_true rfl⟩) (zPV hPc hK hDc (va_recv (q := (RX8, TX8, 7)) hK hP (ci := 8) (q0 := 0) rfl rfl)) rfl rfl hl.1 rfl (lv_room (Nat.le_of_ble_eq_true rfl)) dX8_showOf_60 ⟨Nat.zero_le _, Nat.zero_le _⟩) hS (fun q _ h => hFc q h) hFc (fun v60 u60 t H locs ht hvm hw hB hz1 hk1 hS9 => ?_)
    replace hP := zkeep hP hk1
    replace hS := hS9
    clear hPc hDc hFc hk1 hz1 hvm hS9
    obtain ⟨f60_0, f60_1, f60_2⟩ : (0 ≤ v60.toInt) ∧ (v60.toInt ≤ 9) ∧ (∀ sk mo : Int32, v60 = zLkv none p2 (fb (4 * p1.toInt.toNat + 2)) v59 sk (gfF p0.toInt.toNat) mo) := hw
    have F60 := f60_2
    refine lv_istore (lv' := [(6, .int v60), (5, .int (-1)), (4, .int v5), (0, .ref h0), (1, .int p0), (2, .int p1), (3, .int p2)]) hx hb dX8_showOf_63 hl (by decide) rfl (fun ls hl => ?_)
    refine lv_iload hx hb dX8_showOf_65 (lv_at hl 2 rfl) ?_
    rcases (show v5 = 1 ∨ v5 = 2 ∨ (¬ v5 = 1 ∧ ¬ v5 = 2) from (Classical.em (v5 = 1)).elim Or.inl (fun n0 => Or.inr ((Classical.em (v5 = 2)).elim Or.inl (fun n1 => Or.inr (⟨n0, n1⟩))))) with s67 | s67 | ⟨n67_0, n67_1⟩
    · refine lv_lookup (off := 25) (tgt := 92) hx hb dX8_showOf_67 (by decide) (by rw [s67]; decide) (by decide) ?_; have c67 : v5.toInt = 1 := z5 rfl (by decide) s67
      refine lv_iload hx hb dX8_showOf_92 (lv_at hl 0 rfl) ?_
      refine lv_bipush (v := 7) hx hb dX8_showOf_94 (by decide) ?_
      refine lv_iadd hx hb dX8_showOf_96 ?_
      refine lv_topi (fun v96 e96 => ?_)
      have i96 : v96.toInt = v60.toInt + 7 := zadd e96 rfl (by decide) (by omega) (by omega)
      refine lv_iconst (v := 2) hx hb dX8_showOf_97 (by decide) ?_
      refine lv_idiv hx hb dX8_showOf_98 (by decide) ?_
      refine lv_topi (fun v98 e98 => ?_)
      have i98 : v98.toInt = v96.toInt / 2 := zdiv e98 rfl (by decide) (by omega) (by omega)
      rw [hQ]
      exact W.iret (v := v98) hx hb hr (fun t ht hW => ⟨⟨v98, (), rfl, ⟨by (try dsimp only); omega, by (try dsimp only); omega, fun sk mo => by rw [← F5, ← zIxN (n := p1.toInt.toNat) e59 (by omega), ← F60 sk mo]; exact zSh_1 (by omega) e96 e98⟩, trivial⟩, hS.F ht⟩) hS.2.2 dX8_showOf_99
    · refine lv_lookup (off := 33) (tgt := 100) hx hb dX8_showOf_67 (by decide) (by rw [s67]; decide) (by decide) ?_; have c67 : v5.toInt = 2 := z5 rfl (by decide) s67
      refine lv_iconst (v := 0) hx hb dX8_showOf_100 (by decide) ?_
      refine lv_iload hx hb dX8_showOf_101 (lv_at hl 0 rfl) ?_
      refine lv_iconst (v := 2) hx hb dX8_showOf_103 (by decide) ?_
      refine lv_isub hx hb dX8_showOf_104 ?_
      refine lv_topi (fun v104 e104 => ?_)
      have i104 : v104.toInt = v60.toInt - 2 := zsub e104 rfl (by decide) (by omega) (by omega)
      refine va_mmax hx hb (by rw [hml]; exact hl.1.symm) hown (hts _ qw633) (hts _ qw634) (hts _ qw112) (hts _ qw635) (by rw [hR]; exact Nat.le_of_ble_eq_true rfl) (by rw [hR]; exact Nat.le_of_ble_eq_true rfl) (Nat.zero_le _) (Nat.zero_le _) dX8_showOf_105 ?_
      refine lv_topi (fun v105 e105 => ?_)
      have zc105_0 : (0 : Int32).toInt = 0 := by decide
      have i105 := zmmax e105
      rw [hQ]
      exact W.iret (v := v105) hx hb hr (fun t ht hW => ⟨⟨v105, (), rfl, ⟨by (try dsimp only); omega, by (try dsimp only); omega, fun sk mo => by rw [← F5, ← zIxN (n := p1.toInt.toNat) e59 (by omega), ← F60 sk mo]; exact zSh_2 (by omega) e104 e105⟩, trivial⟩, hS.F ht⟩) hS.2.2 dX8_showOf_108
    · refine lv_lookup (off := 42) (tgt := 109) hx hb dX8_showOf_67 (by decide) ((lv_osw n67_0 (by decide)).trans ((lv_osw n67_1 (by decide)).trans (rfl))) (by decide) ?_; have c67_0 : ¬ v5.toInt = 1 := z6 rfl (by decide) n67_0; have c67_1 : ¬ v5.toInt = 2 := z6 rfl (by decide) n67_1
      refine lv_iload hx hb dX8_showOf_109 (lv_at hl 0 rfl) ?_
      rw [hQ]
      exact W.iret (v := v60) hx hb hr (fun t ht hW => ⟨⟨v60, (), rfl, ⟨by (try dsimp only); omega, by (try dsimp only); omega, fun sk mo => by rw [← F5, ← zIxN (n := p1.toInt.toNat) e59 (by omega), ← F60 sk mo]; exact zSh_o (by omega) (by omega) (by first | exact Or.inl (by omega) | (rcases F21 with z | z; exact Or.inr (by rw [z.2]; decide); (exfalso; omega)))⟩, trivial⟩, hS.F ht⟩) hS.2.2 dX8_showOf_111
  · have c13 : v5.toInt = 3 := z5 rfl (by decide) c13
    refine lv_aload_n hx hb dX8_showOf_16 rfl (lv_at hl 1 rfl) ?_
    refine va_get (D := (dC, dI)) (ci := 8) (v := .ref g0) (C := RX8) (T := TX8) (N := 7) hx hb hts iX8 hown hK hP 0 rfl rfl 3 (by decide) (hts _ qw290) (fun _ h9 => h9) rfl dX8_showOf_17 ?_
    refine lv_iload_n hx hb dX8_showOf_20 rfl (lv_at hl 2 rfl) ?_
    obtain ⟨hPc, hDc⟩ := zc2 (wc := [(g0, .inr (7, [.ref gY, .ref gF, .ref gP, .int gpn, .int glt, .int gsh, .int gwd, .int gpu, .int gmo])), (gP, .inl (cI, 80, .inl gfP))]) hP hT [4, 7] (by decide +kernel) rfl
    have hFc := zfr hS hA
    refine va_calli (va_runV (As := [.int p0]) (rest := []) ⟨hx, hb, hml, hown, hts⟩ (g_X7_latestBy l dC dI cI cJ g0 p0 gY gF gP gpn glt gsh gwd gpu gmo gfP H.size n_gpn ci_gfP_zPo) (cwV 1 hts (zgV qw648 qw649 qw650 qw103 qw651) rfl rfl rfl hd_X7_latestBy ⟨by rw [hR]; exact Nat.le_of_ble_eq_true rfl, by rw [hR]; exact Nat.le_of_ble_eq_true rfl⟩) (zPV hPc hK hDc (va_recv (q := (RX7, TX7, 9)) hK hP (ci := 7) (q0 := 4) rfl rfl)) rfl rfl hl.1 rfl (lv_room (Nat.le_of_ble_eq_true rfl)) dX8_showOf_21 ⟨Nat.zero_le _, Nat.zero_le _⟩) hS (fun q _ h => hFc q h) hFc (fun v21 u21 t H locs ht hvm hw hB hz1 hk1 hS9 => ?_)
    replace hP := zkeep hP hk1
    replace hS := hS9
    clear hPc hDc hFc hk1 hz1 hvm hS9
    obtain ⟨f21_0, f21_1, f21_2⟩ : ((-1) ≤ v21.toInt) ∧ (v21.toInt ≤ 19) ∧ (zLaI gfP p0 gpn v21) := hw
    have F21 := f21_2
    refine lv_goto (tgt := 28) hx hb dX8_showOf_24 (by decide) ?_
    refine lv_istore (lv' := [(5, .int v21), (4, .int v5), (0, .ref h0), (1, .int p0), (2, .int p1), (3, .int p2)]) hx hb dX8_showOf_28 hl (by decide) rfl (fun ls hl => ?_)
    refine lv_iload hx hb dX8_showOf_30 (lv_at hl 0 rfl) ?_
    refine lv_iconst (v := (-1)) hx hb dX8_showOf_32 (by decide) ?_
    refine lv_icmp_eq (tgt := 47) hx hb dX8_showOf_33 (by decide) (fun c33 => ?_) (fun c33 => ?_)
    · have c33 : v21.toInt = (-1) := z5 rfl (by decide) c33
      refine lv_aload_n hx hb dX8_showOf_47 rfl (lv_at hl 2 rfl) ?_
      refine lv_iload_n hx hb dX8_showOf_48 rfl (lv_at hl 3 rfl) ?_
      refine lv_iload_n hx hb dX8_showOf_49 rfl (lv_at hl 4 rfl) ?_
      refine lv_iload_n hx hb dX8_showOf_50 rfl (lv_at hl 5 rfl) ?_
      refine lv_aload_n hx hb dX8_showOf_51 rfl (lv_at hl 2 rfl) ?_
      refine va_get (D := (dC, dI)) (ci := 8) (v := .ref g0) (C := RX8) (T := TX8) (N := 7) hx hb hts iX8 hown hK hP 0 rfl rfl 3 (by decide) (hts _ qw290) (fun _ h9 => h9) rfl dX8_showOf_52 ?_
      refine va_get (D := (dC, dI)) (ci := 7) (v := .ref gY) (C := RX7) (T := TX7) (N := 9) hx hb hts iX7 hown hK hP 4 rfl rfl 0 (by decide) (hts _ qw221) (fun _ h9 => h9) rfl dX8_showOf_55 ?_
      refine lv_iload_n hx hb dX8_showOf_58 rfl (lv_at hl 4 rfl) ?_
      refine va_iald hx hb hK hP 5 0 rfl rfl (vp_in_iff.mpr ⟨by omega, by omega⟩) dX8_showOf_59 ?_
      refine lv_topi (fun v59 e59 => ?_)
      obtain ⟨hPc, hDc⟩ := zc2 (wc := [(h0, .inr (8, [.ref w1, .ref w2, .ref aC, .ref g0, .ref aL, .ref aK, .null])), (aC, .inr (1, [.ref aR, .ref aB, .ref aP, .int nb, .int np])), (aB, .inl (cI, 24, .inl fb)), (g0, .inr (7, [.ref gY, .ref gF, .ref gP, .int gpn, .int glt, .int gsh, .int gwd, .int gpu, .int gmo])), (gF, .inl (cI, 5, .inl gfF))]) hP hT [0, 1, 2, 4, 6] (by decide +kernel) rfl
      have hFc := zfr hS hA
      refine va_calli (va_runV (As := [.int p0, .int p1, .int p2, .int v59]) (rest := []) ⟨hx, hb, hml, hown, hts⟩ (g_X8_lookOf_n l dC dI cI cJ h0 p0 p1 p2 v59 w1 w2 aC g0 aL aK aR aB aP nb np fb gY gF gP gpn glt gsh gwd gpu gmo gfF H.size n_p0 n_p1) (cwV 4 hts (zgV qw657 qw658 qw659 qw105 qw660) rfl rfl rfl hd_X8_lookOf ⟨by rw [hR]; exact Nat.le_of_ble_eq_true rfl, by rw [hR]; exact Nat.le_of_ble_eq_true rfl⟩) (zPV hPc hK hDc (va_recv (q := (RX8, TX8, 7)) hK hP (ci := 8) (q0 := 0) rfl rfl)) rfl rfl hl.1 rfl (lv_room (Nat.le_of_ble_eq_true rfl)) dX8_showOf_60 ⟨Nat.zero_le _, Nat.zero_le _⟩) hS (fun q _ h => hFc q h) hFc (fun v60 u60 t H locs ht hvm hw hB hz1 hk1 hS9 => ?_)
      replace hP := zkeep hP hk1
      replace hS := hS9
      clear hPc hDc hFc hk1 hz1 hvm hS9
      obtain ⟨f60_0, f60_1, f60_2⟩ : (0 ≤ v60.toInt) ∧ (v60.toInt ≤ 9) ∧ (∀ sk mo : Int32, v60 = zLkv none p2 (fb (4 * p1.toInt.toNat + 2)) v59 sk (gfF p0.toInt.toNat) mo) := hw
      have F60 := f60_2
      refine lv_istore (lv' := [(6, .int v60), (5, .int v21), (4, .int v5), (0, .ref h0), (1, .int p0), (2, .int p1), (3, .int p2)]) hx hb dX8_showOf_63 hl (by decide) rfl (fun ls hl => ?_)
      refine lv_iload hx hb dX8_showOf_65 (lv_at hl 2 rfl) ?_
      rcases (show v5 = 1 ∨ v5 = 2 ∨ (¬ v5 = 1 ∧ ¬ v5 = 2) from (Classical.em (v5 = 1)).elim Or.inl (fun n0 => Or.inr ((Classical.em (v5 = 2)).elim Or.inl (fun n1 => Or.inr (⟨n0, n1⟩))))) with s67 | s67 | ⟨n67_0, n67_1⟩
      · exfalso; have c67 : v5.toInt = 1 := z5 rfl (by decide) s67; omega
      · exfalso; have c67 : v5.toInt = 2 := z5 rfl (by decide) s67; omega
      · refine lv_lookup (off := 42) (tgt := 109) hx hb dX8_showOf_67 (by decide) ((lv_osw n67_0 (by decide)).trans ((lv_osw n67_1 (by decide)).trans (rfl))) (by decide) ?_; have c67_0 : ¬ v5.toInt = 1 := z6 rfl (by decide) n67_0; have c67_1 : ¬ v5.toInt = 2 := z6 rfl (by decide) n67_1
        refine lv_iload hx hb dX8_showOf_109 (lv_at hl 0 rfl) ?_
        rw [hQ]
        exact W.iret (v := v60) hx hb hr (fun t ht hW => ⟨⟨v60, (), rfl, ⟨by (try dsimp only); omega, by (try dsimp only); omega, fun sk mo => by rw [← F5, ← zIxN (n := p1.toInt.toNat) e59 (by omega), ← F60 sk mo]; exact zSh_o (by omega) (by omega) (by first | exact Or.inl (by omega) | (rcases F21 with z | z; exact Or.inr (by rw [z.2]; decide); (exfalso; omega)))⟩, trivial⟩, hS.F ht⟩) hS.2.2 dX8_showOf_111
    · have c33 : ¬ v21.toInt = (-1) := z6 rfl (by decide) c33
      refine lv_aload_n hx hb dX8_showOf_36 rfl (lv_at hl 2 rfl) ?_
      refine va_get (D := (dC, dI)) (ci := 8) (v := .ref g0) (C := RX8) (T := TX8) (N := 7) hx hb hts iX8 hown hK hP 0 rfl rfl 3 (by decide) (hts _ qw290) (fun _ h9 => h9) rfl dX8_showOf_37 ?_
      refine lv_iload hx hb dX8_showOf_40 (lv_at hl 0 rfl) ?_
      refine lv_iconst (v := 2) hx hb dX8_showOf_42 (by decide) ?_
      obtain ⟨hPc, hDc⟩ := zc2 (wc := [(g0, .inr (7, [.ref gY, .ref gF, .ref gP, .int gpn, .int glt, .int gsh, .int gwd, .int gpu, .int gmo])), (gP, .inl (cI, 80, .inl gfP))]) hP hT [4, 7] (by decide +kernel) rfl
      have hFc := zfr hS hA
      refine va_calli (va_runV (As := [.int v21, .int 2]) (rest := []) ⟨hx, hb, hml, hown, hts⟩ (g_X7_ofPortrait_2 l dC dI cI cJ g0 v21 gY gF gP gpn glt gsh gwd gpu gmo gfP H.size (by omega) ci_gfP_zPo) (cwV 2 hts (zgV qw656 qw653 qw654 qw103 qw655) rfl rfl rfl hd_X7_ofPortrait ⟨by rw [hR]; exact Nat.le_of_ble_eq_true rfl, by rw [hR]; exact Nat.le_of_ble_eq_true rfl⟩) (zPV hPc hK hDc (va_recv (q := (RX7, TX7, 9)) hK hP (ci := 7) (q0 := 4) rfl rfl)) rfl rfl hl.1 rfl (lv_room (Nat.le_of_ble_eq_true rfl)) dX8_showOf_43 ⟨Nat.zero_le _, Nat.zero_le _⟩) hS (fun q _ h => hFc q h) hFc (fun v43 u43 t H locs ht hvm hw hB hz1 hk1 hS9 => ?_)
      replace hP := zkeep hP hk1
      replace hS := hS9
      clear hPc hDc hFc hk1 hz1 hvm hS9
      obtain ⟨f43_0, f43_1, f43_2⟩ : (0 ≤ v43.toInt) ∧ (v43.toInt ≤ 9) ∧ (v43 = gfP (4 * v21.toInt.toNat + 2)) := hw
      have F43 := f43_2
      rw [hQ]
      exact W.iret (v := v43) hx hb hr (fun t ht hW => ⟨⟨v43, (), rfl, ⟨by (try dsimp only); omega, by (try dsimp only); omega, fun sk mo => by rcases F21 with z | z; (exfalso; omega); exact (F43.trans z.2.2.symm).trans (zSh_3 (by rw [← F5]; omega) (by rw [z.2.2, ← F43]; omega))⟩, trivial⟩, hS.F ht⟩) hS.2.2 dX8_showOf_46
set_option maxHeartbeats 4000000 in
set_option maxRecDepth 100000 in
theorem g_X8_showOf_l (l : Launch) (dC : Nat → ClassId) (dI : Nat → Nat → Nat) (cI cJ : ClassId) (h0 : Nat) (p0 : Int32) (p1 : Int32) (p2 : Int32) (w1 : Nat) (w2 : Nat) (aC : Nat) (g0 : Nat) (aL : Nat) (aK : Nat) (lw : Nat) (aR : Nat) (aB : Nat) (aP : Nat) (nb : Int32) (np : Int32) (fb : Nat → Int32) (fp : Nat → Int32) (gY : Nat) (gF : Nat) (gP : Nat) (gpn : Int32) (glt : Int32) (gsh : Int32) (gwd : Int32) (gpu : Int32) (gmo : Int32) (gfY : Nat → Int32) (gfF : Nat → Int32) (gfP : Nat → Int32) (fL : Nat → Int32) (fK : Nat → Int32) (lS : Nat) (fS : Nat → Int32) (lk : Nat) (sz : Nat) (n_gpn : 0 ≤ gpn.toInt ∧ gpn.toInt ≤ 20) (n_p0 : 0 ≤ p0.toInt ∧ p0.toInt ≤ 4) (n_p1 : 0 ≤ p1.toInt ∧ p1.toInt ≤ 5) (hlk : lk ≤ 241) (ci_fS_zSt : zSt fS) (ci_gfP_zPo : zPo gfP)  : Met l yX8_showOf (.code yX8_showOf cX8_showOf 7 (some .int) :: wA) ({ frames := 3, cells := 0, slots := 0, locals := 77 }) (zP (dC, dI) [(cI, .int), (cJ, .long)] [.ref h0, .int p0, .int p1, .int p2] sz [(h0, .inr (8, [.ref w1, .ref w2, .ref aC, .ref g0, .ref aL, .ref aK, .ref lw])), (aC, .inr (1, [.ref aR, .ref aB, .ref aP, .int nb, .int np])), (aB, .inl (cI, 24, .inl fb)), (aP, .inl (cI, 20, .inl fp)), (g0, .inr (7, [.ref gY, .ref gF, .ref gP, .int gpn, .int glt, .int gsh, .int gwd, .int gpu, .int gmo])), (gY, .inl (cI, 6, .inl gfY)), (gF, .inl (cI, 5, .inl gfF)), (gP, .inl (cI, 80, .inl gfP)), (aL, .inl (cI, 6, .inl fL)), (aK, .inl (cI, 32, .inl fK)), (lw, .inr (4, [.ref lS])), (lS, .inl (cI, lk, .inl fS))]) (va_Qi (fun (r : Int32) (u : (Nat → Int32) × (Nat → Int32)) => (0 ≤ r.toInt) ∧ (r.toInt ≤ 9) ∧ (∀ t : (Int → Int) × Int, zLwC fS lk t → zB5 p2 (fb (4 * p1.toInt.toNat + 2)) (gfY p1.toInt.toNat) (fp (4 * p0.toInt.toNat)) (gfF p0.toInt.toNat) gmo → r = zSh (fp (4 * p0.toInt.toNat + 3)) (zLat gfP p0 gpn.toInt.toNat) (zLkv (some t) p2 (fb (4 * p1.toInt.toNat + 2)) (gfY p1.toInt.toNat) (fp (4 * p0.toInt.toNat)) (gfF p0.toInt.toNat) gmo))) (fun (u : (Nat → Int32) × (Nat → Int32)) (t : State) => va_P (dC, dI) vwCl [(h0, .inr (8, [.ref w1, .ref w2, .ref aC, .ref g0, .ref aL, .ref aK, .ref lw])), (aC, .inr (1, [.ref aR, .ref aB, .ref aP, .int nb, .int np])), (aB, .inl (cI, 24, .inl fb)), (aP, .inl (cI, 20, .inl fp)), (g0, .inr (7, [.ref gY, .ref gF, .ref gP, .int gpn, .int glt, .int gsh, .int gwd, .int gpu, .int gmo])), (gY, .inl (cI, 6, .inl gfY)), (gF, .inl (cI, 5, .inl gfF)), (gP, .inl (cI, 80, .inl gfP)), (aL, .inl (cI, 6, .inl u.1)), (aK, .inl (cI, 32, .inl u.2)), (lw, .inr (4, [.ref lS])), (lS, .inl (cI, lk, .inl fS))] t.heap ∧ va_D (va_A [(h0, .inr (8, [.ref w1, .ref w2, .ref aC, .ref g0, .ref aL, .ref aK, .ref lw])), (aC, .inr (1, [.ref aR, .ref aB, .ref aP, .int nb, .int np])), (aB, .inl (cI, 24, .inl fb)), (aP, .inl (cI, 20, .inl fp)), (g0, .inr (7, [.ref gY, .ref gF, .ref gP, .int gpn, .int glt, .int gsh, .int gwd, .int gpu, .int gmo])), (gY, .inl (cI, 6, .inl gfY)), (gF, .inl (cI, 5, .inl gfF)), (gP, .inl (cI, 80, .inl gfP)), (aL, .inl (cI, 6, .inl fL)), (aK, .inl (cI, 32, .inl fK)), (lw, .inr (4, [.ref lS])), (lS, .inl (cI, lk, .inl fS))] sz) [(h0, .inr (8, [.ref w1, .ref w2, .ref aC, .ref g0, .ref aL, .ref aK, .ref lw])), (aC, .inr (1, [.ref aR, .ref aB, .ref aP, .int nb, .int np])), (aB, .inl (cI, 24, .inl fb)), (aP, .inl (cI, 20, .inl fp)), (g0, .inr (7, [.ref gY, .ref gF, .ref gP, .int gpn, .int glt, .int gsh, .int gwd, .int gpu, .int gmo])), (gY, .inl (cI, 6, .inl gfY)), (gF, .inl (cI, 5, .inl gfF)), (gP, .inl (cI, 80, .inl gfP)), (aL, .inl (cI, 6, .inl u.1)), (aK, .inl (cI, 32, .inl u.2)), (lw, .inr (4, [.ref lS])), (lS, .inl (cI, lk, .inl fS))]) (va_A [(h0, .inr (8, [.ref w1, .ref w2, .ref aC, .ref g0, .ref aL, .ref aK, .ref lw])), (aC, .inr (1, [.ref aR, .ref aB, .ref aP, .int nb, .int np])), (aB, .inl (cI, 24, .inl fb)), (aP, .inl (cI, 20, .inl fp)), (g0, .inr (7, [.ref gY, .ref gF, .ref gP, .int gpn, .int glt, .int gsh, .int gwd, .int gpu, .int gmo])), (gY, .inl (cI, 6, .inl gfY)), (gF, .inl (cI, 5, .inl gfF)), (gP, .inl (cI, 80, .inl gfP)), (aL, .inl (cI, 6, .inl fL)), (aK, .inl (cI, 32, .inl fK)), (lw, .inr (4, [.ref lS])), (lS, .inl (cI, lk, .inl fS))] sz)) 0 0 (va_A [(h0, .inr (8, [.ref w1, .ref w2, .ref aC, .ref g0, .ref aL, .ref aK, .ref lw])), (aC, .inr (1, [.ref aR, .ref aB, .ref aP, .int nb, .int np])), (aB, .inl (cI, 24, .inl fb)), (aP, .inl (cI, 20, .inl fp)), (g0, .inr (7, [.ref gY, .ref gF, .ref gP, .int gpn, .int glt, .int gsh, .int gwd, .int gpu, .int gmo])), (gY, .inl (cI, 6, .inl gfY)), (gF, .inl (cI, 5, .inl gfF)), (gP, .inl (cI, 80, .inl gfP)), (aL, .inl (cI, 6, .inl fL)), (aK, .inl (cI, 32, .inl fK)), (lw, .inr (4, [.ref lS])), (lS, .inl (cI, lk, .inl fS))] sz) := by
  refine Met.ofW (cc := cX8_showOf) (maxL := 7) (ret := (some .int)) (by decide) rfl ?_
  intro p e s m args below meth c s₁ B hml hv
  obtain ⟨hargs, hsz, hP, hK, hT⟩ := hv
  have hx := B.exec
  have hb := B.bytes
  have hr := B.returns
  have hts : ∀ w ∈ wA, w.before args s = true := fun w h => atoms_spec (ws := .code yX8_showOf cX8_showOf 7 (some .int) :: wA) B.pre w (List.mem_cons_of_mem _ h)
  have hown : s.vm.findClass RX8 = some m.cls := findClass_of_methodNamed B.named
  have hlocks := B.notSynchronized
  subst hsz
  have hD := hT.self (sz := s.heap.size)
  generalize hAe : va_A [(h0, .inr (8, [.ref w1, .ref w2, .ref aC, .ref g0, .ref aL, .ref aK, .ref lw])), (aC, .inr (1, [.ref aR, .ref aB, .ref aP, .int nb, .int np])), (aB, .inl (cI, 24, .inl fb)), (aP, .inl (cI, 20, .inl fp)), (g0, .inr (7, [.ref gY, .ref gF, .ref gP, .int gpn, .int glt, .int gsh, .int gwd, .int gpu, .int gmo])), (gY, .inl (cI, 6, .inl gfY)), (gF, .inl (cI, 5, .inl gfF)), (gP, .inl (cI, 80, .inl gfP)), (aL, .inl (cI, 6, .inl fL)), (aK, .inl (cI, 32, .inl fK)), (lw, .inr (4, [.ref lS])), (lS, .inl (cI, lk, .inl fS))] s.heap.size = A at hD ⊢
  have hA : ∀ q : Nat, s.heap.size ≤ q → A q := fun q h => by rw [← hAe]; exact Or.inr h
  have hl := lv_entry ([.ref h0, .int p0, .int p1, .int p2]) (n := 7) (Nat.le_of_ble_eq_true rfl)
  rw [show entryFrame m args 7 = entryFrame m ([.ref h0, .int p0, .int p1, .int p2] : List Value).toArray 7 by rw [hargs], lg_entry_eq]
  generalize (lg_sl ([.ref h0, .int p0, .int p1, .int p2]) ++ List.replicate (7 - (lg_sl ([.ref h0, .int p0, .int p1, .int p2])).length) Slot.unset).toArray = ls at hl ⊢
  have hl : lv_has ls 7 [(0, .ref h0), (1, .int p0), (2, .int p1), (3, .int p2)] := hl
  refine zstart (fun H hH => ?_)
  rw [← hH] at hP
  have hS : va_S A s.heap H [] := by rw [hH]; exact va_S.rf
  generalize ([] : List Loc) = locs at hS ⊢
  refine zgen (fun R Q hR hQ => ?_)
  refine lv_aload_n hx hb dX8_showOf_0 rfl (lv_at hl 0 rfl) ?_
  refine va_get (D := (dC, dI)) (ci := 8) (v := .ref aC) (C := RX8) (T := TX8) (N := 7) hx hb hts iX8 hown hK hP 0 rfl rfl 2 (by decide) (hts _ qw289) (fun _ h9 => h9) rfl dX8_showOf_1 ?_
  refine lv_iload_n hx hb dX8_showOf_4 rfl (lv_at hl 1 rfl) ?_
  obtain ⟨hPc, hDc⟩ := zc2 (wc := [(aC, .inr (1, [.ref aR, .ref aB, .ref aP, .int nb, .int np])), (aP, .inl (cI, 20, .inl fp))]) hP hD [1, 3] (by decide +kernel) rfl
  have hFc := zfr hS hA
  refine va_calli (va_runV (As := [.int p0]) (rest := []) ⟨hx, hb, hml, hown, hts⟩ (g_X1_kindOf l dC dI cI cJ aC p0 aR aB aP nb np fp H.size n_p0) (cwV 1 hts (zgV qw647 qw614 qw615 qw102 qw616) rfl rfl rfl hd_X1_kindOf ⟨by rw [hR]; exact Nat.le_of_ble_eq_true rfl, by rw [hR]; exact Nat.le_of_ble_eq_true rfl⟩) (zPV hPc hK hDc (va_recv (q := (RX1, TX1, 5)) hK hP (ci := 1) (q0 := 1) rfl rfl)) rfl rfl hl.1 rfl (lv_room (Nat.le_of_ble_eq_true rfl)) dX8_showOf_5 ⟨Nat.zero_le _, Nat.zero_le _⟩) hS (fun q _ h => hFc q h) hFc (fun v5 u5 t H locs ht hvm hw hB hz1 hk1 hS9 => ?_)
  replace hP := zkeep hP hk1
  replace hS := hS9
  clear hPc hDc hFc hk1 hz1 hvm hS9
  have f5_0 : (v5 = fp (4 * p0.toInt.toNat + 3)) := hw
  have F5 := f5_0
  refine lv_istore (lv' := [(4, .int v5), (0, .ref h0), (1, .int p0), (2, .int p1), (3, .int p2)]) hx hb dX8_showOf_8 hl (by decide) rfl (fun ls hl => ?_)
  refine lv_iload hx hb dX8_showOf_10 (lv_at hl 0 rfl) ?_
  refine lv_iconst (v := 3) hx hb dX8_showOf_12 (by decide) ?_
  refine lv_icmp_ne (tgt := 27) hx hb dX8_showOf_13 (by decide) (fun c13 => ?_) (fun c13 => ?_)
  · have c13 : ¬ v5.toInt = 3 := z6 rfl (by decide) c13
    refine lv_iconst (v := (-1)) hx hb dX8_showOf_27 (by decide) ?_
    refine lv_istore (lv' := [(5, .int (-1)), (4, .int v5), (0, .ref h0), (1, .int p0), (2, .int p1), (3, .int p2)]) hx hb dX8_showOf_28 hl (by decide) rfl (fun ls hl => ?_)
    refine lv_iload hx hb dX8_showOf_30 (lv_at hl 0 rfl) ?_
    refine lv_iconst (v := (-1)) hx hb dX8_showOf_32 (by decide) ?_
    refine lv_icmp_eq (tgt := 47) hx hb dX8_showOf_33 (by decide) (fun _ => ?_) (fun c => absurd (by decide) c)
    refine lv_aload_n hx hb dX8_showOf_47 rfl (lv_at hl 2 rfl) ?_
    refine lv_iload_n hx hb dX8_showOf_48 rfl (lv_at hl 3 rfl) ?_
    refine lv_iload_n hx hb dX8_showOf_49 rfl (lv_at hl 4 rfl) ?_
    refine lv_iload_n hx hb dX8_showOf_50 rfl (lv_at hl 5 rfl) ?_
    refine lv_aload_n hx hb dX8_showOf_51 rfl (lv_at hl 2 rfl) ?_
    refine va_get (D := (dC, dI)) (ci := 8) (v := .ref g0) (C := RX8) (T := TX8) (N := 7) hx hb hts iX8 hown hK hP 0 rfl rfl 3 (by decide) (hts _ qw290) (fun _ h9 => h9) rfl dX8_showOf_52 ?_
    refine va_get (D := (dC, dI)) (ci := 7) (v := .ref gY) (C := RX7) (T := TX7) (N := 9) hx hb hts iX7 hown hK hP 4 rfl rfl 0 (by decide) (hts _ qw221) (fun _ h9 => h9) rfl dX8_showOf_55 ?_
    refine lv_iload_n hx hb dX8_showOf_58 rfl (lv_at hl 4 rfl) ?_
    refine va_iald hx hb hK hP 5 0 rfl rfl (vp_in_iff.mpr ⟨by omega, by omega⟩) dX8_showOf_59 ?_
    refine lv_topi (fun v59 e59 => ?_)
    obtain ⟨hPc, hDc, hFc⟩ := zc3 (wc := [(h0, .inr (8, [.ref w1, .ref w2, .ref aC, .ref g0, .ref aL, .ref aK, .ref lw])), (aC, .inr (1, [.ref aR, .ref aB, .ref aP, .int nb, .int np])), (aB, .inl (cI, 24, .inl fb)), (aP, .inl (cI, 20, .inl fp)), (g0, .inr (7, [.ref gY, .ref gF, .ref gP, .int gpn, .int glt, .int gsh, .int gwd, .int gpu, .int gmo])), (gF, .inl (cI, 5, .inl gfF)), (aL, .inl (cI, 6, .inl fL)), (aK, .inl (cI, 32, .inl fK)), (lw, .inr (4, [.ref lS])), (lS, .inl (cI, lk, .inl fS))]) hP hD hS hA [0, 1, 2, 3, 4, 6, 8, 9, 10, 11] (by decide +kernel) rfl
    refine va_calli (va_runV (As := [.int p0, .int p1, .int p2, .int v59]) (rest := []) ⟨hx, hb, hml, hown, hts⟩ (g_X8_lookOf_l l dC dI cI cJ h0 p0 p1 p2 v59 w1 w2 aC g0 aL aK lw aR aB aP nb np fb fp gY gF gP gpn glt gsh gwd gpu gmo gfF fL fK lS fS lk H.size n_p0 n_p1 (hlk) ci_fS_zSt) (cwV 4 hts (zgV qw657 qw658 qw659 qw105 qw660) rfl rfl rfl hd_X8_lookOf ⟨by rw [hR]; exact Nat.le_of_ble_eq_true rfl, by rw [hR]; exact Nat.le_of_ble_eq_true rfl⟩) (zPV hPc hK hDc (va_recv (q := (RX8, TX8, 7)) hK hP (ci := 8) (q0 := 0) rfl rfl)) rfl rfl hl.1 rfl (lv_room (Nat.le_of_ble_eq_true rfl)) dX8_showOf_60 ⟨Nat.zero_le _, Nat.zero_le _⟩) hS (fun q _ h => hFc q h) hFc (fun v60 u60 t H locs ht hvm hw hB hz1 hk1 hS9 => ?_)
    obtain ⟨u60_0, u60_1⟩ := u60
    obtain ⟨hP9, hD9⟩ := zj2 (wX := [(h0, .inr (8, [.ref w1, .ref w2, .ref aC, .ref g0, .ref aL, .ref aK, .ref lw])), (aC, .inr (1, [.ref aR, .ref aB, .ref aP, .int nb, .int np])), (aB, .inl (cI, 24, .inl fb)), (aP, .inl (cI, 20, .inl fp)), (g0, .inr (7, [.ref gY, .ref gF, .ref gP, .int gpn, .int glt, .int gsh, .int gwd, .int gpu, .int gmo])), (gY, .inl (cI, 6, .inl gfY)), (gF, .inl (cI, 5, .inl gfF)), (gP, .inl (cI, 80, .inl gfP)), (aL, .inl (cI, 6, .inl u60_0)), (aK, .inl (cI, 32, .inl u60_1)), (lw, .inr (4, [.ref lS])), (lS, .inl (cI, lk, .inl fS))]) hP hD hk1 hFc ht hB [0, 1, 2, 3, 4, 6, 8, 9, 10, 11] [(true, 0), (true, 1), (true, 2), (true, 3), (true, 4), (false, 5), (true, 5), (false, 7), (true, 6), (true, 7), (true, 8), (true, 9)] rfl (by decide +kernel) (by decide +kernel) rfl
    clear hP hD hS hPc hDc hFc hB hk1 hz1 hvm
    have hP := hP9
    have hD := hD9
    have hS := hS9
    clear hP9 hD9 hS9
    obtain ⟨f60_0, f60_1, f60_2⟩ : (0 ≤ v60.toInt) ∧ (v60.toInt ≤ 9) ∧ (∀ t : (Int → Int) × Int, zLwC fS lk t → zB5 p2 (fb (4 * p1.toInt.toNat + 2)) v59 (fp (4 * p0.toInt.toNat)) (gfF p0.toInt.toNat) gmo → v60 = zLkv (some t) p2 (fb (4 * p1.toInt.toNat + 2)) v59 (fp (4 * p0.toInt.toNat)) (gfF p0.toInt.toNat) gmo) := hw
    have F60 := f60_2
    refine lv_istore (lv' := [(6, .int v60), (5, .int (-1)), (4, .int v5), (0, .ref h0), (1, .int p0), (2, .int p1), (3, .int p2)]) hx hb dX8_showOf_63 hl (by decide) rfl (fun ls hl => ?_)
    refine lv_iload hx hb dX8_showOf_65 (lv_at hl 2 rfl) ?_
    rcases (show v5 = 1 ∨ v5 = 2 ∨ (¬ v5 = 1 ∧ ¬ v5 = 2) from (Classical.em (v5 = 1)).elim Or.inl (fun n0 => Or.inr ((Classical.em (v5 = 2)).elim Or.inl (fun n1 => Or.inr (⟨n0, n1⟩))))) with s67 | s67 | ⟨n67_0, n67_1⟩
    · refine lv_lookup (off := 25) (tgt := 92) hx hb dX8_showOf_67 (by decide) (by rw [s67]; decide) (by decide) ?_; have c67 : v5.toInt = 1 := z5 rfl (by decide) s67
      refine lv_iload hx hb dX8_showOf_92 (lv_at hl 0 rfl) ?_
      refine lv_bipush (v := 7) hx hb dX8_showOf_94 (by decide) ?_
      refine lv_iadd hx hb dX8_showOf_96 ?_
      refine lv_topi (fun v96 e96 => ?_)
      have i96 : v96.toInt = v60.toInt + 7 := zadd e96 rfl (by decide) (by omega) (by omega)
      refine lv_iconst (v := 2) hx hb dX8_showOf_97 (by decide) ?_
      refine lv_idiv hx hb dX8_showOf_98 (by decide) ?_
      refine lv_topi (fun v98 e98 => ?_)
      have i98 : v98.toInt = v96.toInt / 2 := zdiv e98 rfl (by decide) (by omega) (by omega)
      rw [hQ]
      exact W.iret (v := v98) hx hb hr (fun t ht hW => ⟨⟨v98, (u60_0, u60_1), rfl, ⟨by (try dsimp only); omega, by (try dsimp only); omega, fun t ht hb => by rw [← F5, ← zIxN (n := p1.toInt.toNat) e59 (by omega), ← F60 t ht (by rw [zIxN (n := p1.toInt.toNat) e59 (by omega)]; exact hb)]; exact zSh_1 (by omega) e96 e98⟩, ⟨by rw [ht]; exact hP, hD⟩⟩, hS.F ht⟩) hS.2.2 dX8_showOf_99
    · refine lv_lookup (off := 33) (tgt := 100) hx hb dX8_showOf_67 (by decide) (by rw [s67]; decide) (by decide) ?_; have c67 : v5.toInt = 2 := z5 rfl (by decide) s67
      refine lv_iconst (v := 0) hx hb dX8_showOf_100 (by decide) ?_
      refine lv_iload hx hb dX8_showOf_101 (lv_at hl 0 rfl) ?_
      refine lv_iconst (v := 2) hx hb dX8_showOf_103 (by decide) ?_
      refine lv_isub hx hb dX8_showOf_104 ?_
      refine lv_topi (fun v104 e104 => ?_)
      have i104 : v104.toInt = v60.toInt - 2 := zsub e104 rfl (by decide) (by omega) (by omega)
      refine va_mmax hx hb (by rw [hml]; exact hl.1.symm) hown (hts _ qw633) (hts _ qw634) (hts _ qw112) (hts _ qw635) (by rw [hR]; exact Nat.le_of_ble_eq_true rfl) (by rw [hR]; exact Nat.le_of_ble_eq_true rfl) (Nat.zero_le _) (Nat.zero_le _) dX8_showOf_105 ?_
      refine lv_topi (fun v105 e105 => ?_)
      have zc105_0 : (0 : Int32).toInt = 0 := by decide
      have i105 := zmmax e105
      rw [hQ]
      exact W.iret (v := v105) hx hb hr (fun t ht hW => ⟨⟨v105, (u60_0, u60_1), rfl, ⟨by (try dsimp only); omega, by (try dsimp only); omega, fun t ht hb => by rw [← F5, ← zIxN (n := p1.toInt.toNat) e59 (by omega), ← F60 t ht (by rw [zIxN (n := p1.toInt.toNat) e59 (by omega)]; exact hb)]; exact zSh_2 (by omega) e104 e105⟩, ⟨by rw [ht]; exact hP, hD⟩⟩, hS.F ht⟩) hS.2.2 dX8_showOf_108
    · refine lv_lookup (off := 42) (tgt := 109) hx hb dX8_showOf_67 (by decide) ((lv_osw n67_0 (by decide)).trans ((lv_osw n67_1 (by decide)).trans (rfl))) (by decide) ?_; have c67_0 : ¬ v5.toInt = 1 := z6 rfl (by decide) n67_0; have c67_1 : ¬ v5.toInt = 2 := z6 rfl (by decide) n67_1
      refine lv_iload hx hb dX8_showOf_109 (lv_at hl 0 rfl) ?_
      rw [hQ]
      exact W.iret (v := v60) hx hb hr (fun t ht hW => ⟨⟨v60, (u60_0, u60_1), rfl, ⟨by (try dsimp only); omega, by (try dsimp only); omega, fun t ht hb => by rw [← F5, ← zIxN (n := p1.toInt.toNat) e59 (by omega), ← F60 t ht (by rw [zIxN (n := p1.toInt.toNat) e59 (by omega)]; exact hb)]; exact zSh_o (by omega) (by omega) (by first | exact Or.inl (by omega) | (rcases F21 with z | z; exact Or.inr (by rw [z.2]; decide); (exfalso; omega)))⟩, ⟨by rw [ht]; exact hP, hD⟩⟩, hS.F ht⟩) hS.2.2 dX8_showOf_111
  · have c13 : v5.toInt = 3 := z5 rfl (by decide) c13
    refine lv_aload_n hx hb dX8_showOf_16 rfl (lv_at hl 1 rfl) ?_
    refine va_get (D := (dC, dI)) (ci := 8) (v := .ref g0) (C := RX8) (T := TX8) (N := 7) hx hb hts iX8 hown hK hP 0 rfl rfl 3 (by decide) (hts _ qw290) (fun _ h9 => h9) rfl dX8_showOf_17 ?_
    refine lv_iload_n hx hb dX8_showOf_20 rfl (lv_at hl 2 rfl) ?_
    obtain ⟨hPc, hDc⟩ := zc2 (wc := [(g0, .inr (7, [.ref gY, .ref gF, .ref gP, .int gpn, .int glt, .int gsh, .int gwd, .int gpu, .int gmo])), (gP, .inl (cI, 80, .inl gfP))]) hP hD [4, 7] (by decide +kernel) rfl
    have hFc := zfr hS hA
    refine va_calli (va_runV (As := [.int p0]) (rest := []) ⟨hx, hb, hml, hown, hts⟩ (g_X7_latestBy l dC dI cI cJ g0 p0 gY gF gP gpn glt gsh gwd gpu gmo gfP H.size n_gpn ci_gfP_zPo) (cwV 1 hts (zgV qw648 qw649 qw650 qw103 qw651) rfl rfl rfl hd_X7_latestBy ⟨by rw [hR]; exact Nat.le_of_ble_eq_true rfl, by rw [hR]; exact Nat.le_of_ble_eq_true rfl⟩) (zPV hPc hK hDc (va_recv (q := (RX7, TX7, 9)) hK hP (ci := 7) (q0 := 4) rfl rfl)) rfl rfl hl.1 rfl (lv_room (Nat.le_of_ble_eq_true rfl)) dX8_showOf_21 ⟨Nat.zero_le _, Nat.zero_le _⟩) hS (fun q _ h => hFc q h) hFc (fun v21 u21 t H locs ht hvm hw hB hz1 hk1 hS9 => ?_)
    replace hP := zkeep hP hk1
    replace hS := hS9
    clear hPc hDc hFc hk1 hz1 hvm hS9
    obtain ⟨f21_0, f21_1, f21_2⟩ : ((-1) ≤ v21.toInt) ∧ (v21.toInt ≤ 19) ∧ (zLaI gfP p0 gpn v21) := hw
    have F21 := f21_2
    refine lv_goto (tgt := 28) hx hb dX8_showOf_24 (by decide) ?_
    refine lv_istore (lv' := [(5, .int v21), (4, .int v5), (0, .ref h0), (1, .int p0), (2, .int p1), (3, .int p2)]) hx hb dX8_showOf_28 hl (by decide) rfl (fun ls hl => ?_)
    refine lv_iload hx hb dX8_showOf_30 (lv_at hl 0 rfl) ?_
    refine lv_iconst (v := (-1)) hx hb dX8_showOf_32 (by decide) ?_
    refine lv_icmp_eq (tgt := 47) hx hb dX8_showOf_33 (by decide) (fun c33 => ?_) (fun c33 => ?_)
    · have c33 : v21.toInt = (-1) := z5 rfl (by decide) c33
      refine lv_aload_n hx hb dX8_showOf_47 rfl (lv_at hl 2 rfl) ?_
      refine lv_iload_n hx hb dX8_showOf_48 rfl (lv_at hl 3 rfl) ?_
      refine lv_iload_n hx hb dX8_showOf_49 rfl (lv_at hl 4 rfl) ?_
      refine lv_iload_n hx hb dX8_showOf_50 rfl (lv_at hl 5 rfl) ?_
      refine lv_aload_n hx hb dX8_showOf_51 rfl (lv_at hl 2 rfl) ?_
      refine va_get (D := (dC, dI)) (ci := 8) (v := .ref g0) (C := RX8) (T := TX8) (N := 7) hx hb hts iX8 hown hK hP 0 rfl rfl 3 (by decide) (hts _ qw290) (fun _ h9 => h9) rfl dX8_showOf_52 ?_
      refine va_get (D := (dC, dI)) (ci := 7) (v := .ref gY) (C := RX7) (T := TX7) (N := 9) hx hb hts iX7 hown hK hP 4 rfl rfl 0 (by decide) (hts _ qw221) (fun _ h9 => h9) rfl dX8_showOf_55 ?_
      refine lv_iload_n hx hb dX8_showOf_58 rfl (lv_at hl 4 rfl) ?_
      refine va_iald hx hb hK hP 5 0 rfl rfl (vp_in_iff.mpr ⟨by omega, by omega⟩) dX8_showOf_59 ?_
      refine lv_topi (fun v59 e59 => ?_)
      obtain ⟨hPc, hDc, hFc⟩ := zc3 (wc := [(h0, .inr (8, [.ref w1, .ref w2, .ref aC, .ref g0, .ref aL, .ref aK, .ref lw])), (aC, .inr (1, [.ref aR, .ref aB, .ref aP, .int nb, .int np])), (aB, .inl (cI, 24, .inl fb)), (aP, .inl (cI, 20, .inl fp)), (g0, .inr (7, [.ref gY, .ref gF, .ref gP, .int gpn, .int glt, .int gsh, .int gwd, .int gpu, .int gmo])), (gF, .inl (cI, 5, .inl gfF)), (aL, .inl (cI, 6, .inl fL)), (aK, .inl (cI, 32, .inl fK)), (lw, .inr (4, [.ref lS])), (lS, .inl (cI, lk, .inl fS))]) hP hD hS hA [0, 1, 2, 3, 4, 6, 8, 9, 10, 11] (by decide +kernel) rfl
      refine va_calli (va_runV (As := [.int p0, .int p1, .int p2, .int v59]) (rest := []) ⟨hx, hb, hml, hown, hts⟩ (g_X8_lookOf_l l dC dI cI cJ h0 p0 p1 p2 v59 w1 w2 aC g0 aL aK lw aR aB aP nb np fb fp gY gF gP gpn glt gsh gwd gpu gmo gfF fL fK lS fS lk H.size n_p0 n_p1 (hlk) ci_fS_zSt) (cwV 4 hts (zgV qw657 qw658 qw659 qw105 qw660) rfl rfl rfl hd_X8_lookOf ⟨by rw [hR]; exact Nat.le_of_ble_eq_true rfl, by rw [hR]; exact Nat.le_of_ble_eq_true rfl⟩) (zPV hPc hK hDc (va_recv (q := (RX8, TX8, 7)) hK hP (ci := 8) (q0 := 0) rfl rfl)) rfl rfl hl.1 rfl (lv_room (Nat.le_of_ble_eq_true rfl)) dX8_showOf_60 ⟨Nat.zero_le _, Nat.zero_le _⟩) hS (fun q _ h => hFc q h) hFc (fun v60 u60 t H locs ht hvm hw hB hz1 hk1 hS9 => ?_)
      obtain ⟨u60_0, u60_1⟩ := u60
      obtain ⟨hP9, hD9⟩ := zj2 (wX := [(h0, .inr (8, [.ref w1, .ref w2, .ref aC, .ref g0, .ref aL, .ref aK, .ref lw])), (aC, .inr (1, [.ref aR, .ref aB, .ref aP, .int nb, .int np])), (aB, .inl (cI, 24, .inl fb)), (aP, .inl (cI, 20, .inl fp)), (g0, .inr (7, [.ref gY, .ref gF, .ref gP, .int gpn, .int glt, .int gsh, .int gwd, .int gpu, .int gmo])), (gY, .inl (cI, 6, .inl gfY)), (gF, .inl (cI, 5, .inl gfF)), (gP, .inl (cI, 80, .inl gfP)), (aL, .inl (cI, 6, .inl u60_0)), (aK, .inl (cI, 32, .inl u60_1)), (lw, .inr (4, [.ref lS])), (lS, .inl (cI, lk, .inl fS))]) hP hD hk1 hFc ht hB [0, 1, 2, 3, 4, 6, 8, 9, 10, 11] [(true, 0), (true, 1), (true, 2), (true, 3), (true, 4), (false, 5), (true, 5), (false, 7), (true, 6), (true, 7), (true, 8), (true, 9)] rfl (by decide +kernel) (by decide +kernel) rfl
      clear hP hD hS hPc hDc hFc hB hk1 hz1 hvm
      have hP := hP9
      have hD := hD9
      have hS := hS9
      clear hP9 hD9 hS9
      obtain ⟨f60_0, f60_1, f60_2⟩ : (0 ≤ v60.toInt) ∧ (v60.toInt ≤ 9) ∧ (∀ t : (Int → Int) × Int, zLwC fS lk t → zB5 p2 (fb (4 * p1.toInt.toNat + 2)) v59 (fp (4 * p0.toInt.toNat)) (gfF p0.toInt.toNat) gmo → v60 = zLkv (some t) p2 (fb (4 * p1.toInt.toNat + 2)) v59 (fp (4 * p0.toInt.toNat)) (gfF p0.toInt.toNat) gmo) := hw
      have F60 := f60_2
      refine lv_istore (lv' := [(6, .int v60), (5, .int v21), (4, .int v5), (0, .ref h0), (1, .int p0), (2, .int p1), (3, .int p2)]) hx hb dX8_showOf_63 hl (by decide) rfl (fun ls hl => ?_)
      refine lv_iload hx hb dX8_showOf_65 (lv_at hl 2 rfl) ?_
      rcases (show v5 = 1 ∨ v5 = 2 ∨ (¬ v5 = 1 ∧ ¬ v5 = 2) from (Classical.em (v5 = 1)).elim Or.inl (fun n0 => Or.inr ((Classical.em (v5 = 2)).elim Or.inl (fun n1 => Or.inr (⟨n0, n1⟩))))) with s67 | s67 | ⟨n67_0, n67_1⟩
      · exfalso; have c67 : v5.toInt = 1 := z5 rfl (by decide) s67; omega
      · exfalso; have c67 : v5.toInt = 2 := z5 rfl (by decide) s67; omega
      · refine lv_lookup (off := 42) (tgt := 109) hx hb dX8_showOf_67 (by decide) ((lv_osw n67_0 (by decide)).trans ((lv_osw n67_1 (by decide)).trans (rfl))) (by decide) ?_; have c67_0 : ¬ v5.toInt = 1 := z6 rfl (by decide) n67_0; have c67_1 : ¬ v5.toInt = 2 := z6 rfl (by decide) n67_1
        refine lv_iload hx hb dX8_showOf_109 (lv_at hl 0 rfl) ?_
        rw [hQ]
        exact W.iret (v := v60) hx hb hr (fun t ht hW => ⟨⟨v60, (u60_0, u60_1), rfl, ⟨by (try dsimp only); omega, by (try dsimp only); omega, fun t ht hb => by rw [← F5, ← zIxN (n := p1.toInt.toNat) e59 (by omega), ← F60 t ht (by rw [zIxN (n := p1.toInt.toNat) e59 (by omega)]; exact hb)]; exact zSh_o (by omega) (by omega) (by first | exact Or.inl (by omega) | (rcases F21 with z | z; exact Or.inr (by rw [z.2]; decide); (exfalso; omega)))⟩, ⟨by rw [ht]; exact hP, hD⟩⟩, hS.F ht⟩) hS.2.2 dX8_showOf_111
    · have c33 : ¬ v21.toInt = (-1) := z6 rfl (by decide) c33
      refine lv_aload_n hx hb dX8_showOf_36 rfl (lv_at hl 2 rfl) ?_
      refine va_get (D := (dC, dI)) (ci := 8) (v := .ref g0) (C := RX8) (T := TX8) (N := 7) hx hb hts iX8 hown hK hP 0 rfl rfl 3 (by decide) (hts _ qw290) (fun _ h9 => h9) rfl dX8_showOf_37 ?_
      refine lv_iload hx hb dX8_showOf_40 (lv_at hl 0 rfl) ?_
      refine lv_iconst (v := 2) hx hb dX8_showOf_42 (by decide) ?_
      obtain ⟨hPc, hDc⟩ := zc2 (wc := [(g0, .inr (7, [.ref gY, .ref gF, .ref gP, .int gpn, .int glt, .int gsh, .int gwd, .int gpu, .int gmo])), (gP, .inl (cI, 80, .inl gfP))]) hP hD [4, 7] (by decide +kernel) rfl
      have hFc := zfr hS hA
      refine va_calli (va_runV (As := [.int v21, .int 2]) (rest := []) ⟨hx, hb, hml, hown, hts⟩ (g_X7_ofPortrait_2 l dC dI cI cJ g0 v21 gY gF gP gpn glt gsh gwd gpu gmo gfP H.size (by omega) ci_gfP_zPo) (cwV 2 hts (zgV qw656 qw653 qw654 qw103 qw655) rfl rfl rfl hd_X7_ofPortrait ⟨by rw [hR]; exact Nat.le_of_ble_eq_true rfl, by rw [hR]; exact Nat.le_of_ble_eq_true rfl⟩) (zPV hPc hK hDc (va_recv (q := (RX7, TX7, 9)) hK hP (ci := 7) (q0 := 4) rfl rfl)) rfl rfl hl.1 rfl (lv_room (Nat.le_of_ble_eq_true rfl)) dX8_showOf_43 ⟨Nat.zero_le _, Nat.zero_le _⟩) hS (fun q _ h => hFc q h) hFc (fun v43 u43 t H locs ht hvm hw hB hz1 hk1 hS9 => ?_)
      replace hP := zkeep hP hk1
      replace hS := hS9
      clear hPc hDc hFc hk1 hz1 hvm hS9
      obtain ⟨f43_0, f43_1, f43_2⟩ : (0 ≤ v43.toInt) ∧ (v43.toInt ≤ 9) ∧ (v43 = gfP (4 * v21.toInt.toNat + 2)) := hw
      have F43 := f43_2
      rw [hQ]
      exact W.iret (v := v43) hx hb hr (fun t ht hW => ⟨⟨v43, (fL, fK), rfl, ⟨by (try dsimp only); omega, by (try dsimp only); omega, fun t ht hb => by rcases F21 with z | z; (exfalso; omega); exact (F43.trans z.2.2.symm).trans (zSh_3 (by rw [← F5]; omega) (by rw [z.2.2, ← F43]; omega))⟩, ⟨by rw [ht]; exact hP, hD⟩⟩, hS.F ht⟩) hS.2.2 dX8_showOf_46
