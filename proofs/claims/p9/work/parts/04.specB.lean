/-! numbers of the court in answers -/
theorem zIxN {f : Nat → Int32} {v idx : Int32} {n : Nat} (e : v = f idx.toNatClampNeg) (hi : idx.toInt = (n : Int)) : v = f n := by
  have q : idx.toNatClampNeg = n := by show idx.toInt.toNat = _; omega
  rw [e, q]
def zWo (f w d v : Int32) : Int32 := f * w + d / 10 * v
/-- the true worth of bride k -/
def zTw (r b : Nat → Int32) (k : Nat) : Int32 := zWo (b (4 * k)) (r 1) (b (4 * k + 1)) (r 2)
def zRv (W : Nat → Int32) (b : Nat) : Nat → Int32
  | 0 => 0
  | k + 1 => if (W b).toInt < (W k).toInt then zRv W b k ||| (1 <<< (Int32.ofNat k &&& 31)) else zRv W b k
theorem zRvS {W : Nat → Int32} {b : Nat} {i i' x x' s u v : Int32} (h : x = zRv W b i.toInt.toNat) (h0 : 0 ≤ i.toInt) (hi : i'.toInt = i.toInt + 1) (hu : u = W i.toInt.toNat) (hv : v = W b) (hc : v.toInt < u.toInt) (es : s = 1 <<< (i &&& 31)) (e : x' = x ||| s) : x' = zRv W b i'.toInt.toNat := by
  rw [show i'.toInt.toNat = i.toInt.toNat + 1 by omega]
  unfold zRv
  rw [← hu, ← hv, if_pos hc, ← zk32 h0, e, es, h]
theorem zRvN {W : Nat → Int32} {b : Nat} {i i' x u v : Int32} (h : x = zRv W b i.toInt.toNat) (h0 : 0 ≤ i.toInt) (hi : i'.toInt = i.toInt + 1) (hu : u = W i.toInt.toNat) (hv : v = W b) (hc : ¬ v.toInt < u.toInt) : x = zRv W b i'.toInt.toNat := by
  rw [show i'.toInt.toNat = i.toInt.toNat + 1 by omega]
  unfold zRv
  rw [← hu, ← hv, if_neg hc]
  exact h
theorem zRv_c {W W' : Nat → Int32} {b : Nat} : ∀ {k : Nat}, W b = W' b → (∀ j : Nat, j < k → W j = W' j) → zRv W b k = zRv W' b k := by
  intro k
  induction k with
  | zero => intro _ _; rfl
  | succ k ih =>
    intro hb h
    unfold zRv
    rw [hb, h k (by omega), ih hb (fun j hj => h j (by omega))]
theorem zor0 {x y z : Int32} (e : z = x ||| y) (hy : y = 0) : z = x := by
  rw [e, hy]
  exact Int32.or_zero
theorem zcpE {f g r : Nat → Int32} {N : Nat} (e : r = va_cpy f g 0 0 N) : ∀ j : Nat, j < N → r j = f j := fun j hj => by
  rw [e, pk_cpy_in (by omega) (by omega), show 0 + (j - 0) = j by omega]
/-- text, and the court behind it -/
def zTxC (f : Nat → Int32) (n p : Int32) (fr fb fp : Nat → Int32) (nb np : Int32) (fr' fb' fp' : Nat → Int32) (nb' np' : Int32) : Prop := (p.toInt = 0 ∧ (sCrt (sB f n.toInt) n.toInt).1 = -1 ∧ zCn fr' fb' fp' nb'.toInt np'.toInt (sCrtV (sB f n.toInt) n.toInt) ∧ nb'.toInt = (sCrt (sB f n.toInt) n.toInt).2.2.1 ∧ np'.toInt = (sCrt (sB f n.toInt) n.toInt).2.2.2) ∨ (¬ (p.toInt = 0 ∧ (sCrt (sB f n.toInt) n.toInt).1 = -1) ∧ fr' = fr ∧ fb' = fb ∧ fp' = fp ∧ nb' = nb ∧ np' = np)
theorem zTxC_c {f : Nat → Int32} {n p v a b c : Int32} {fr fb fp dr db dp fr' fb' fp' : Nat → Int32} {nb np : Int32} (h : sCrt (sB f n.toInt) n.toInt = (v.toInt, a.toInt, b.toInt, c.toInt)) (hp : p.toInt = 0) (hv : v.toInt = -1) (hb : b.toInt ≤ 6) (hc : c.toInt ≤ 5) (hn : v.toInt = -1 → zCn dr db dp b.toInt c.toInt (sCrtV (sB f n.toInt) n.toInt)) (e : (∀ j : Nat, j < 3 → fr' j = dr j) ∧ (∀ j : Nat, j < 24 → fb' j = db j) ∧ ∀ j : Nat, j < 20 → fp' j = dp j) : zTxC f n p fr fb fp nb np fr' fb' fp' b c := Or.inl ⟨hp, by rw [h]; exact hv, zCn_eq (hn hv) e.1 (fun j hj => e.2.1 j (by omega)) (fun j hj => e.2.2 j (by omega)), by rw [h], by rw [h]⟩
theorem zTxC_r {f : Nat → Int32} {n p v b c : Int32} {fr fb fp dr db dp fr' fb' fp' : Nat → Int32} {nb np : Int32} (h : (sCrt (sB f n.toInt) n.toInt).1 = v.toInt) (h2 : (sCrt (sB f n.toInt) n.toInt).2.2 = (b.toInt, c.toInt)) (hp : p.toInt = 0) (hv : v.toInt = -1) (hb : b.toInt ≤ 6) (hc : c.toInt ≤ 5) (hn : v.toInt = -1 → zCn dr db dp b.toInt c.toInt (sCrtV (sB f n.toInt) n.toInt)) (e : (∀ j : Nat, j < 3 → fr' j = dr j) ∧ (∀ j : Nat, j < 24 → fb' j = db j) ∧ ∀ j : Nat, j < 20 → fp' j = dp j) : zTxC f n p fr fb fp nb np fr' fb' fp' b c := Or.inl ⟨hp, h.trans hv, zCn_eq (hn hv) e.1 (fun j hj => e.2.1 j (by omega)) (fun j hj => e.2.2 j (by omega)), by rw [h2], by rw [h2]⟩
theorem zTxC_n {f : Nat → Int32} {n p v : Int32} {fr fb fp : Nat → Int32} {nb np : Int32} (h : (sCrt (sB f n.toInt) n.toInt).1 = v.toInt) (hv : ¬ v.toInt = -1) : zTxC f n p fr fb fp nb np fr fb fp nb np := Or.inr ⟨fun z => hv (h ▸ z.2), rfl, rfl, rfl, rfl, rfl⟩
theorem zTxC_o {f : Nat → Int32} {n p : Int32} {fr fb fp : Nat → Int32} {nb np : Int32} (h : ¬ p.toInt = 0) : zTxC f n p fr fb fp nb np fr fb fp nb np := Or.inr ⟨fun z => h z.1, rfl, rfl, rfl, rfl, rfl⟩
/-- both sides: one court, one content -/
theorem zTxC_det {f f2 : Nat → Int32} {n n2 p : Int32} {fr fb fp gr gb gp fr' fb' fp' gr' gb' gp' : Nat → Int32} {nb np nb' np' nb2' np2' : Int32} {c : zK3} (hg : sB f n.toInt = sB f2 n2.toInt) (hn : n.toInt = n2.toInt) (h : zTxC f n p fr fb fp nb np fr' fb' fp' nb' np') (h2 : zTxC f2 n2 p gr gb gp nb np gr' gb' gp' nb2' np2') (hc : zCn fr fb fp nb.toInt np.toInt c) (hc2 : zCn gr gb gp nb.toInt np.toInt c) : nb' = nb2' ∧ np' = np2' ∧ ∃ c' : zK3, zCn fr' fb' fp' nb'.toInt np'.toInt c' ∧ zCn gr' gb' gp' nb'.toInt np'.toInt c' := by
  unfold zTxC at h h2
  rw [← hg, ← hn] at h2
  rcases h with h | h <;> rcases h2 with q | q
  · have e1 : nb' = nb2' := Int32.toInt_inj.mp (h.2.2.2.1.trans q.2.2.2.1.symm)
    have e2 : np' = np2' := Int32.toInt_inj.mp (h.2.2.2.2.trans q.2.2.2.2.symm)
    refine ⟨e1, e2, _, h.2.2.1, ?_⟩
    rw [e1, e2]
    exact q.2.2.1
  · exact absurd ⟨h.1, h.2.1⟩ q.1
  · exact absurd ⟨q.1, q.2.1⟩ h.1
  · obtain ⟨-, a1, a2, a3, a4, a5⟩ := h
    obtain ⟨-, b1, b2, b3, b4, b5⟩ := q
    subst a1 a2 a3 a4 a5 b1 b2 b3 b4 b5
    exact ⟨rfl, rfl, c, hc, hc2⟩
theorem znv1 {f : Nat → Int32} {n a v u q w r2 x : Int32} (h : zLk f n a v u) (hq : q.toInt = u.toInt + 1) (F : w.toInt = sB f n.toInt q.toInt) (hg2 : zIs (oG w.toInt) r2) (hr2 : r2.toInt = 0) (hx : x.toInt = sB f n.toInt u.toInt - 48) : x.toInt = sVl2 (sB f n.toInt) (sk (sB f n.toInt) n.toInt a.toInt) := by
  have d2 := zIs_f hg2 hr2
  rw [oG_iff, F, hq] at d2
  unfold sVl2
  rw [h.1, if_pos d2, hx]
theorem znv2 {f : Nat → Int32} {n a v u q w r2 x : Int32} (h : zLk f n a v u) (hq : q.toInt = u.toInt + 1) (F : w.toInt = sB f n.toInt q.toInt) (hg2 : zIs (oG w.toInt) r2) (hr2 : ¬ r2.toInt = 0) (hx : x.toInt = 10 * (sB f n.toInt u.toInt - 48) + (sB f n.toInt q.toInt - 48)) : x.toInt = sVl2 (sB f n.toInt) (sk (sB f n.toInt) n.toInt a.toInt) := by
  have d2 := oG_iff.mp (zIs_t hg2 hr2)
  rw [F, hq] at d2
  unfold sVl2
  rw [h.1, if_neg (fun z => z d2), hx, hq]
theorem zEq_t {f g : Nat → Int32} {k : Int32} {N : Nat} (h : ∀ j : Nat, (j : Int) < k.toInt → f j = g (0 + j)) (hk : (N : Int) ≤ k.toInt) : ∀ j : Nat, j < N → f j = g j := fun j hj => by
  rw [h j (by omega), Nat.zero_add]
