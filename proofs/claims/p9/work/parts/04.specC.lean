/-! the common state: the tape; how many laws; the bribery; the court -/
def zGt (f : Nat → Int32) (n : Int32) (t : (Int → Int) × Int) : Prop := sB f n.toInt = t.1 ∧ n.toInt = t.2 ∧ zTy n f
def zGc (nb np : Int32) (fr fb fp : Nat → Int32) (k : Int32 × Int32 × zK3) : Prop := nb = k.1 ∧ np = k.2.1 ∧ zCn fr fb fp k.1.toInt k.2.1.toInt k.2.2
/-- feed -/
def sT_feed (t : (Int → Int) × Int) (a b c d e : Int32) : (Int → Int) × Int := if 240 < (sF5 a b c d e t).2 then t else sF5 a b c d e t
def sV_feed (t : (Int → Int) × Int) (a b c d e : Int32) : Int := if 240 < (sF5 a b c d e t).2 then -1 else (sF5 a b c d e t).2
theorem zs_feed {f f' : Nat → Int32} {n n' a b c d e r : Int32} {t : (Int → Int) × Int} (h : zFd f n a b c d e r f' n') (hg : zGt f n t) (hy : zTy n' f') : r.toInt = sV_feed t a b c d e ∧ zGt f' n' (sT_feed t a b c d e) := by
  obtain ⟨h1, h2, -⟩ := hg
  have et : t = (sB f n.toInt, n.toInt) := by rw [h1, h2]
  unfold zFd at h
  rw [← et] at h
  unfold sV_feed sT_feed zGt
  rcases h with h | h
  · rw [if_pos h.2.1, if_pos h.2.1]
    exact ⟨h.1, by rw [h.2.2.2, h1], by omega, hy⟩
  · have e2 : (sF5 a b c d e t).2 = n'.toInt := by rw [← h.2.2]
    have e1 : (sF5 a b c d e t).1 = sB f' n'.toInt := by rw [← h.2.2]
    rw [if_neg (by omega), if_neg (by omega)]
    exact ⟨by omega, e1.symm, e2.symm, hy⟩
/-- end -/
def sCut (t : (Int → Int) × Int) (k : Int) : (Int → Int) × Int := (fun a => if 0 ≤ a ∧ a < k then t.1 a else -1, k)
def sT_end (t : (Int → Int) × Int) (k : Int32) : (Int → Int) × Int := if 0 ≤ k.toInt ∧ k.toInt ≤ t.2 then sCut t k.toInt else t
def sV_end (t : (Int → Int) × Int) (k : Int32) : Int := if 0 ≤ k.toInt ∧ k.toInt ≤ t.2 then 1 else 0
theorem zCut {f : Nat → Int32} {n n' : Int32} {t : (Int → Int) × Int} {k : Int} (hg : zGt f n t) (hn : n'.toInt = k) (hk : k ≤ n.toInt) : zGt f n' (sCut t k) := by
  obtain ⟨h1, h2, h3⟩ := hg
  refine ⟨?_, hn, zTy_le h3 (by omega)⟩
  funext a
  show sB f n'.toInt a = (if 0 ≤ a ∧ a < k then t.1 a else -1)
  rw [← h1, hn]
  unfold sB
  by_cases q : 0 ≤ a ∧ a < k
  · rw [if_pos q, if_pos q, if_pos ⟨q.1, by omega⟩]
  · rw [if_neg q, if_neg q]
theorem zs_end {f : Nat → Int32} {n n' k r : Int32} {t : (Int → Int) × Int} (h : (r.toInt = 1 ∧ 0 ≤ k.toInt ∧ k.toInt ≤ n.toInt ∧ n'.toInt = k.toInt) ∨ (r.toInt = 0 ∧ ¬ (0 ≤ k.toInt ∧ k.toInt ≤ n.toInt) ∧ n'.toInt = n.toInt)) (hg : zGt f n t) : r.toInt = sV_end t k ∧ zGt f n' (sT_end t k) := by
  have e := hg.2.1
  unfold sV_end sT_end
  rw [← e]
  rcases h with h | h
  · rw [if_pos ⟨h.2.1, h.2.2.1⟩, if_pos ⟨h.2.1, h.2.2.1⟩]
    exact ⟨h.1, zCut hg h.2.2.2 h.2.2.1⟩
  · rw [if_neg h.2.1, if_neg h.2.1]
    have : n' = n := Int32.toInt_inj.mp h.2.2
    rw [this]
    exact ⟨h.1, hg⟩
/-- fault -/
def sV_fault (t : (Int → Int) × Int) (p : Int32) : Int := if p.toInt = 0 then (sCrt t.1 t.2).1 else if p.toInt = 1 then sLaw t.1 t.2 else -2
theorem zs_fault {f : Nat → Int32} {n p r : Int32} {t : (Int → Int) × Int} (h : (p.toInt = 0 ∧ r.toInt = (sCrt (sB f n.toInt) n.toInt).1) ∨ (p.toInt = 1 ∧ r.toInt = sLaw (sB f n.toInt) n.toInt) ∨ (¬ p.toInt = 0 ∧ ¬ p.toInt = 1 ∧ r.toInt = -2)) (hg : zGt f n t) : r.toInt = sV_fault t p := by
  rw [hg.1, hg.2.1] at h
  unfold sV_fault
  rcases h with h | h | h
  · rw [if_pos h.1]
    exact h.2
  · rw [if_neg (by omega), if_pos h.1]
    exact h.2
  · rw [if_neg h.1, if_neg h.2.1]
    exact h.2.2
/-- text -/
def sQ_c (t : (Int → Int) × Int) (p : Int32) : Prop := p.toInt = 0 ∧ (sCrt t.1 t.2).1 = -1
def sQ_l (t : (Int → Int) × Int) (lw p : Int32) : Prop := p.toInt = 1 ∧ lw.toInt < 4 ∧ sLaw t.1 t.2 = -1
def sT_text (t : (Int → Int) × Int) (lw p : Int32) : (Int → Int) × Int := if (p.toInt = 0 ∧ (sCrt t.1 t.2).1 = -1) ∨ (p.toInt = 1 ∧ lw.toInt < 4 ∧ sLaw t.1 t.2 = -1) then sCut t 0 else t
def sL_text (t : (Int → Int) × Int) (lw p : Int32) : Int32 := if p.toInt = 1 ∧ lw.toInt < 4 ∧ sLaw t.1 t.2 = -1 then Int32.ofInt (lw.toInt + 1) else lw
def sV_text (t : (Int → Int) × Int) (lw p : Int32) : Int := if p.toInt = 0 ∧ (sCrt t.1 t.2).1 = -1 then (sCrt t.1 t.2).2.2.1 else if p.toInt = 1 ∧ lw.toInt < 4 ∧ sLaw t.1 t.2 = -1 then lw.toInt else -1
def sK_text (t : (Int → Int) × Int) (k : Int32 × Int32 × zK3) (p : Int32) : Int32 × Int32 × zK3 := if p.toInt = 0 ∧ (sCrt t.1 t.2).1 = -1 then (Int32.ofInt (sCrt t.1 t.2).2.2.1, Int32.ofInt (sCrt t.1 t.2).2.2.2, sCrtV t.1 t.2) else k
theorem zs_text {f : Nat → Int32} {n p lw r n' lw' : Int32} {t : (Int → Int) × Int} (h : zTx f n p lw r n' lw') (hg : zGt f n t) (h0 : 0 ≤ n.toInt) : r.toInt = sV_text t lw p ∧ zGt f n' (sT_text t lw p) ∧ lw' = sL_text t lw p := by
  unfold zTx at h
  rw [hg.1, hg.2.1] at h
  unfold sV_text sT_text sL_text
  rcases h with h | h | h
  · rw [if_pos ⟨h.1, h.2.1⟩, if_pos (Or.inl ⟨h.1, h.2.1⟩), if_neg (by omega)]
    exact ⟨h.2.2.2.1, zCut hg h.2.2.1 h0, Int32.toInt_inj.mp h.2.2.2.2⟩
  · rw [if_neg (by omega), if_pos ⟨h.1, h.2.1, h.2.2.1⟩, if_pos (Or.inr ⟨h.1, h.2.1, h.2.2.1⟩), if_pos ⟨h.1, h.2.1, h.2.2.1⟩]
    exact ⟨h.2.2.2.2.1, zCut hg h.2.2.2.1 h0, zof h.2.2.2.2.2⟩
  · rw [if_neg h.1, if_neg h.2.1, if_neg (fun z => z.elim h.1 h.2.1), if_neg h.2.1]
    have e : n' = n := Int32.toInt_inj.mp (h.2.2.2.1.trans hg.2.1.symm)
    rw [e]
    exact ⟨h.2.2.1, hg, Int32.toInt_inj.mp h.2.2.2.2⟩
theorem zs_textC {f : Nat → Int32} {n p : Int32} {t : (Int → Int) × Int} {fr fb fp fr' fb' fp' : Nat → Int32} {nb np nb' np' : Int32} {k : Int32 × Int32 × zK3} (h : zTxC f n p fr fb fp nb np fr' fb' fp' nb' np') (hg : zGt f n t) (hk : zGc nb np fr fb fp k) : zGc nb' np' fr' fb' fp' (sK_text t k p) := by
  unfold zTxC at h
  rw [hg.1, hg.2.1] at h
  unfold sK_text
  rcases h with h | h
  · rw [if_pos ⟨h.1, h.2.1⟩]
    have e1 := zof h.2.2.2.1
    have e2 := zof h.2.2.2.2
    refine ⟨e1, e2, ?_⟩
    show zCn fr' fb' fp' (Int32.ofInt _).toInt (Int32.ofInt _).toInt _
    rw [← e1, ← e2]
    exact h.2.2.1
  · rw [if_neg h.1]
    obtain ⟨-, a1, a2, a3, a4, a5⟩ := h
    rw [a1, a2, a3, a4, a5]
    exact hk
/-- law -/
def sV_law (lw p : Int32) : Int := if -1 ≤ p.toInt ∧ p.toInt < lw.toInt then 1 else 0
theorem zs_law {lw p r : Int32} (h : (r.toInt = 1 ∧ -1 ≤ p.toInt ∧ p.toInt < lw.toInt) ∨ (r.toInt = 0 ∧ ¬ (-1 ≤ p.toInt ∧ p.toInt < lw.toInt))) : r.toInt = sV_law lw p := by
  unfold sV_law
  rcases h with h | h
  · rw [if_pos h.2]
    exact h.1
  · rw [if_neg h.2]
    exact h.1
/-- bribes -/
def sB_bribes (br x : Int32) : Int32 := if 0 ≤ x.toInt ∧ x.toInt ≤ 9 ∧ ¬ x.toInt = br.toInt then x else br
def sV_bribes (br x : Int32) : Int := if 0 ≤ x.toInt ∧ x.toInt ≤ 9 ∧ ¬ x.toInt = br.toInt then 1 else 0
theorem zs_bribes {x br r br' : Int32} (h : (0 ≤ x.toInt ∧ x.toInt ≤ 9 ∧ ¬ x.toInt = br.toInt ∧ r.toInt = 1 ∧ br'.toInt = x.toInt) ∨ (¬ (0 ≤ x.toInt ∧ x.toInt ≤ 9 ∧ ¬ x.toInt = br.toInt) ∧ r.toInt = 0 ∧ br'.toInt = br.toInt)) : r.toInt = sV_bribes br x ∧ br' = sB_bribes br x := by
  unfold sV_bribes sB_bribes
  rcases h with h | h
  · rw [if_pos ⟨h.1, h.2.1, h.2.2.1⟩, if_pos ⟨h.1, h.2.1, h.2.2.1⟩]
    exact ⟨h.2.2.2.1, Int32.toInt_inj.mp h.2.2.2.2⟩
  · rw [if_neg h.1, if_neg h.1]
    exact ⟨h.2.1, Int32.toInt_inj.mp h.2.2⟩
/-- worth, rivals -/
def sV_worth (k : Int32 × Int32 × zK3) (b f : Int32) : Int32 := if (0 ≤ b.toInt ∧ b.toInt < k.1.toInt) ∧ 0 ≤ f.toInt ∧ f.toInt ≤ 9 then zWo f (k.2.2.1 1) (k.2.2.2.1 (4 * b.toInt.toNat + 1)) (k.2.2.1 2) else -1
theorem zs_worth {nb np b f r : Int32} {fr fb fp : Nat → Int32} {k : Int32 × Int32 × zK3} (h : ((0 ≤ b.toInt ∧ b.toInt < nb.toInt) ∧ 0 ≤ f.toInt ∧ f.toInt ≤ 9 → r = zWo f (fr 1) (fb (4 * b.toInt.toNat + 1)) (fr 2)) ∧ (¬ ((0 ≤ b.toInt ∧ b.toInt < nb.toInt) ∧ 0 ≤ f.toInt ∧ f.toInt ≤ 9) → r = -1)) (hk : zGc nb np fr fb fp k) : r = sV_worth k b f := by
  obtain ⟨e1, e2, e3⟩ := hk
  rw [e1] at h
  unfold sV_worth
  by_cases q : (0 ≤ b.toInt ∧ b.toInt < k.1.toInt) ∧ 0 ≤ f.toInt ∧ f.toInt ≤ 9
  · rw [if_pos q, h.1 q, e3.1 1 (by omega), e3.1 2 (by omega), e3.2.1 _ (by omega)]
  · rw [if_neg q]
    exact h.2 q
def sV_rivals (k : Int32 × Int32 × zK3) (b : Int32) : Int32 := if 0 ≤ b.toInt ∧ b.toInt < k.1.toInt then zRv (zTw k.2.2.1 k.2.2.2.1) b.toInt.toNat k.1.toInt.toNat else -1
theorem zTw_c {nb : Int} {fr fb fp : Nat → Int32} {np : Int} {c : zK3} (h : zCn fr fb fp nb np c) {j : Nat} (hj : (j : Int) < nb) : zTw fr fb j = zTw c.1 c.2.1 j := by
  unfold zTw
  rw [h.1 1 (by omega), h.1 2 (by omega), h.2.1 (4 * j) (by omega), h.2.1 (4 * j + 1) (by omega)]
theorem zs_rivals {nb np b r : Int32} {fr fb fp : Nat → Int32} {k : Int32 × Int32 × zK3} (h : ((0 ≤ b.toInt ∧ b.toInt < nb.toInt) → r = zRv (zTw fr fb) b.toInt.toNat nb.toInt.toNat) ∧ (¬ (0 ≤ b.toInt ∧ b.toInt < nb.toInt) → r = -1)) (hk : zGc nb np fr fb fp k) : r = sV_rivals k b := by
  obtain ⟨e1, e2, e3⟩ := hk
  rw [e1] at h
  unfold sV_rivals
  by_cases q : 0 ≤ b.toInt ∧ b.toInt < k.1.toInt
  · rw [if_pos q, h.1 q]
    exact zRv_c (zTw_c e3 (by omega)) (fun j hj => zTw_c e3 (by omega))
  · rw [if_neg q]
    exact h.2 q
theorem zs_textV {t : (Int → Int) × Int} {lw p r : Int32} (h0 : ¬ p.toInt = 0) (h1 : ¬ p.toInt = 1) (hr : r.toInt = -1) : r.toInt = sV_text t lw p := by
  unfold sV_text
  rw [if_neg (fun y => h0 y.1), if_neg (fun y => h1 y.1)]
  exact hr
theorem zs_textK {t : (Int → Int) × Int} {k : Int32 × Int32 × zK3} {p : Int32} (h0 : ¬ p.toInt = 0) : sK_text t k p = k := by
  unfold sK_text
  rw [if_neg (fun y => h0 y.1)]
