/-! what text answers, how long the tape is then, how many laws -/
def zTx (f : Nat → Int32) (n p lw r n' lw' : Int32) : Prop := (p.toInt = 0 ∧ (sCrt (sB f n.toInt) n.toInt).1 = -1 ∧ n'.toInt = 0 ∧ r.toInt = (sCrt (sB f n.toInt) n.toInt).2.2.1 ∧ lw'.toInt = lw.toInt) ∨ (p.toInt = 1 ∧ lw.toInt < 4 ∧ sLaw (sB f n.toInt) n.toInt = -1 ∧ n'.toInt = 0 ∧ r.toInt = lw.toInt ∧ lw'.toInt = lw.toInt + 1) ∨ (¬ (p.toInt = 0 ∧ (sCrt (sB f n.toInt) n.toInt).1 = -1) ∧ ¬ (p.toInt = 1 ∧ lw.toInt < 4 ∧ sLaw (sB f n.toInt) n.toInt = -1) ∧ r.toInt = -1 ∧ n'.toInt = n.toInt ∧ lw'.toInt = lw.toInt)
theorem ztx_c {f : Nat → Int32} {n p lw r n' v a b c : Int32} (h : sCrt (sB f n.toInt) n.toInt = (v.toInt, a.toInt, b.toInt, c.toInt)) (hp : p.toInt = 0) (hv : v.toInt = -1) (hn : n'.toInt = 0) (hr : r.toInt = b.toInt) : zTx f n p lw r n' lw := Or.inl ⟨hp, by rw [h]; exact hv, hn, by rw [h]; exact hr, rfl⟩
theorem ztx_r {f : Nat → Int32} {n p lw r n' v b c : Int32} (h : (sCrt (sB f n.toInt) n.toInt).1 = v.toInt) (h2 : (sCrt (sB f n.toInt) n.toInt).2.2 = (b.toInt, c.toInt)) (hp : p.toInt = 0) (hv : v.toInt = -1) (hn : n'.toInt = 0) (hr : r.toInt = b.toInt) : zTx f n p lw r n' lw := Or.inl ⟨hp, h.trans hv, hn, by rw [h2]; exact hr, rfl⟩
theorem ztx_n {f : Nat → Int32} {n p lw r n' v : Int32} (h : (sCrt (sB f n.toInt) n.toInt).1 = v.toInt) (hp : p.toInt = 0) (hv : ¬ v.toInt = -1) (hr : r.toInt = -1) (hn : n'.toInt = n.toInt) : zTx f n p lw r n' lw := Or.inr (Or.inr ⟨fun z => hv (h ▸ z.2), fun z => by omega, hr, hn, rfl⟩)
theorem ztx_l {f : Nat → Int32} {n p lw r n' lw' v : Int32} (h : sLaw (sB f n.toInt) n.toInt = v.toInt) (hp : p.toInt = 1) (hl : lw.toInt < 4) (hv : v.toInt = -1) (hn : n'.toInt = 0) (hr : r.toInt = lw.toInt) (hl' : lw'.toInt = lw.toInt + 1) : zTx f n p lw r n' lw' := Or.inr (Or.inl ⟨hp, hl, h.trans hv, hn, hr, hl'⟩)
theorem ztx_m {f : Nat → Int32} {n p lw r n' v : Int32} (h : sLaw (sB f n.toInt) n.toInt = v.toInt) (hp : p.toInt = 1) (hv : ¬ v.toInt = -1) (hr : r.toInt = -1) (hn : n'.toInt = n.toInt) : zTx f n p lw r n' lw := Or.inr (Or.inr ⟨fun z => by omega, fun z => hv (h ▸ z.2.2), hr, hn, rfl⟩)
theorem ztx_o {f : Nat → Int32} {n p lw r n' : Int32} (h1 : ¬ p.toInt = 0) (h2 : ¬ (p.toInt = 1 ∧ lw.toInt < 4)) (hr : r.toInt = -1) (hn : n'.toInt = n.toInt) : zTx f n p lw r n' lw := Or.inr (Or.inr ⟨fun z => h1 z.1, fun z => h2 ⟨z.1, z.2.1⟩, hr, hn, rfl⟩)
/-- both sides alike -/
theorem zTx_det {f f2 : Nat → Int32} {n n2 p lw lw2 r r2 n' n2' lw' lw2' : Int32} (hg : sB f n.toInt = sB f2 n2.toInt) (hn : n.toInt = n2.toInt) (hl : lw.toInt = lw2.toInt) (h : zTx f n p lw r n' lw') (h2 : zTx f2 n2 p lw2 r2 n2' lw2') : r.toInt = r2.toInt ∧ n'.toInt = n2'.toInt ∧ lw'.toInt = lw2'.toInt ∧ (n'.toInt = 0 ∨ (n'.toInt = n.toInt ∧ n2'.toInt = n2.toInt)) := by
  unfold zTx at h h2
  rw [← hg, ← hn, ← hl] at h2
  rcases h with h | h | h <;> rcases h2 with q | q | q
  · exact ⟨by omega, by omega, by omega, Or.inl h.2.2.1⟩
  · omega
  · exact absurd ⟨h.1, h.2.1⟩ q.1
  · omega
  · exact ⟨by omega, by omega, by omega, Or.inl h.2.2.2.1⟩
  · exact absurd ⟨h.1, h.2.1, h.2.2.1⟩ q.2.1
  · exact absurd ⟨q.1, q.2.1⟩ h.1
  · exact absurd ⟨q.1, q.2.1, q.2.2.1⟩ h.2.1
  · exact ⟨by omega, by omega, by omega, Or.inr ⟨h.2.2.2.1, by omega⟩⟩
theorem zTx_ty {f : Nat → Int32} {n p lw r n' lw' : Int32} (h : zTx f n p lw r n' lw') (ht : zTy n f) (hn : 0 ≤ n.toInt) : zTy n' f := by
  refine zTy_le ht ?_
  rcases h with h | h | h
  · omega
  · omega
  · omega
/-- feed on both sides -/
theorem zFd_det {f f2 f' f2' : Nat → Int32} {n n2 n' n2' a b c d e r r2 : Int32} (hg : sB f n.toInt = sB f2 n2.toInt) (hn : n.toInt = n2.toInt) (h : zFd f n a b c d e r f' n') (h2 : zFd f2 n2 a b c d e r2 f2' n2') : r.toInt = r2.toInt ∧ n'.toInt = n2'.toInt ∧ sB f' n'.toInt = sB f2' n2'.toInt := by
  unfold zFd at h h2
  rw [← hg, ← hn] at h2
  rcases h with h | h <;> rcases h2 with q | q
  · exact ⟨by omega, by omega, by rw [h.2.2.2, q.2.2.2]⟩
  · omega
  · omega
  · have e := h.2.2.trans q.2.2.symm
    have e1 : n'.toInt = n2'.toInt := congrArg Prod.snd e
    exact ⟨by omega, e1, congrArg Prod.fst e⟩
theorem sB_end2 {f f2 : Nat → Int32} {n n' : Int32} (hg : sB f n.toInt = sB f2 n.toInt) (h : n'.toInt ≤ n.toInt) : sB f n'.toInt = sB f2 n'.toInt := by
  refine sB_cut (n := n.toInt) (fun a ha => ?_) h
  rw [hg]
  by_cases q : 0 ≤ a
  · unfold sB
    rw [if_pos ⟨q, by omega⟩, if_pos ⟨q, ha⟩]
  · unfold sB
    rw [if_neg (fun z => q z.1), if_neg (fun z => q z.1)]
