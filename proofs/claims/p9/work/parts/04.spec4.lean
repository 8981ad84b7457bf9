/-! the reference's reader -/
theorem sB_lt {f : Nat → Int32} {n a : Int} (h : ¬ sB f n a = -1) : 0 ≤ a ∧ a < n := by
  unfold sB at h
  by_cases q : 0 ≤ a ∧ a < n
  · exact q
  · rw [if_neg q] at h
    exact absurd rfl h
def zLk (f : Nat → Int32) (n a r u : Int32) : Prop := sk (sB f n.toInt) n.toInt a.toInt = u.toInt ∧ r.toInt = sB f n.toInt u.toInt
theorem zlkS {f : Nat → Int32} {n m v m' : Int32} {X : Int} (h : X = sk (sB f n.toInt) n.toInt m.toInt) (F : v.toInt = sB f n.toInt m.toInt) (c : v.toInt = 32) (i : m'.toInt = m.toInt + 1) : X = sk (sB f n.toInt) n.toInt m'.toInt := by
  have l := sB_lt (f := f) (n := n.toInt) (a := m.toInt) (by omega)
  rw [h, i]
  exact sk_go l.2 (by omega)
theorem zlkE {f : Nat → Int32} {n a m v r : Int32} (h : sk (sB f n.toInt) n.toInt a.toInt = sk (sB f n.toInt) n.toInt m.toInt) (F : v.toInt = sB f n.toInt m.toInt) (c : ¬ v.toInt = 32) (F2 : r.toInt = sB f n.toInt m.toInt) : zLk f n a r m := by
  refine ⟨?_, F2⟩
  rw [h]
  exact sk_st (fun q => by omega)
/-- right so far, at a place; or wrong, at a place -/
def zW (x : Int × Int) (wr at_ : Int32) : Prop := (x = (1, at_.toInt) ∧ wr.toInt = -1) ∨ (x = (0, wr.toInt) ∧ 0 ≤ wr.toInt)
theorem zW1 {x : Int × Int} {wr a : Int32} (h : x = (1, a.toInt)) (hw : wr.toInt = -1) : zW x wr a := Or.inl ⟨h, hw⟩
theorem zW0 {x : Int × Int} {wr a : Int32} {p : Int} (h : x = (0, p)) (hp : wr.toInt = p) (h0 : 0 ≤ wr.toInt) : zW x wr a := Or.inr ⟨by rw [h, hp], h0⟩
theorem zW_1 {x : Int × Int} {wr a : Int32} (h : zW x wr a) (hw : wr.toInt = -1) : x = (1, a.toInt) := by
  rcases h with q | q
  · exact q.1
  · omega
theorem zW_0 {x : Int × Int} {wr a : Int32} (h : zW x wr a) (hw : ¬ wr.toInt = -1) : x = (0, wr.toInt) ∧ 0 ≤ wr.toInt := by
  rcases h with q | q
  · exact absurd q.2 hw
  · exact q
theorem zW_to {x y : Int × Int} {wr a : Int32} (h : zW x wr a) (e : y = x) : zW y wr a := by rw [e]; exact h
def oG (c : Int) : Bool := decide (48 ≤ c ∧ c ≤ 57)
theorem oG_iff {c : Int} : oG c = true ↔ 48 ≤ c ∧ c ≤ 57 := by unfold oG; exact decide_eq_true_iff
theorem zdg {f : Nat → Int32} {n a v u r : Int32} (h : zLk f n a v u) (hi : zIs (oG v.toInt) r) (hr : ¬ r.toInt = 0) : 48 ≤ sB f n.toInt u.toInt ∧ sB f n.toInt u.toInt ≤ 57 := by
  have := oG_iff.mp (zIs_t hi hr)
  have := h.2
  omega
theorem zDgI {f : Nat → Int32} {n a b b' v r : Int32} (h : zDg f n a b) (F : v.toInt = sB f n.toInt b.toInt) (hi : zIs (oG v.toInt) r) (hr : ¬ r.toInt = 0) (i : b'.toInt = b.toInt + 1) : zDg f n a b' := fun j h1 h2 => by
  have := oG_iff.mp (zIs_t hi hr)
  by_cases q : j < b.toInt
  · exact h j h1 q
  · rw [show j = b.toInt by omega]
    omega
/-- a number: a fifth digit; the end of the digits -/
theorem zpnA {f : Nat → Int32} {n a b wr v r : Int32} (hd : zDg f n a b) (hb : b.toInt = a.toInt + 4) (h0 : 0 ≤ b.toInt) (F : v.toInt = sB f n.toInt b.toInt) (hi : zIs (oG v.toInt) r) (hr : ¬ r.toInt = 0) (hw : wr.toInt = b.toInt) : zW (sNum (sB f n.toInt) a.toInt) wr b := by
  have d4 := oG_iff.mp (zIs_t hi hr)
  have d0 := hd a.toInt (by omega) (by omega)
  have d1 := hd (a.toInt + 1) (by omega) (by omega)
  have d2 := hd (a.toInt + 2) (by omega) (by omega)
  have d3 := hd (a.toInt + 3) (by omega) (by omega)
  rw [F, hb] at d4
  refine zW0 (p := a.toInt + 4) ?_ (by omega) (by omega)
  unfold sNum
  rw [if_neg (fun q => q d0), if_neg (fun q => q d1), if_neg (fun q => q d2), if_neg (fun q => q d3), if_neg (fun q => q d4)]
theorem zpnB {f : Nat → Int32} {n a b wr v r k : Int32} (hd : zDg f n a b) (hb : b.toInt = a.toInt + k.toInt) (k0 : 0 ≤ k.toInt) (k4 : k.toInt ≤ 4) (hd0 : 48 ≤ sB f n.toInt a.toInt ∧ sB f n.toInt a.toInt ≤ 57) (F : v.toInt = sB f n.toInt b.toInt) (hi : zIs (oG v.toInt) r) (hr : r.toInt = 0) (hw : wr.toInt = -1) : zW (sNum (sB f n.toInt) a.toInt) wr b := by
  have hn := zIs_f hi hr
  rw [oG_iff, F] at hn
  by_cases z : k.toInt = 0
  · rw [show b.toInt = a.toInt by omega] at hn
    exact absurd hd0 hn
  · rcases zn4B (r := 0) (h := k) hd hn hb (by omega) k4 (by decide) with q | q
    · exact absurd q.1 (by decide)
    · exact zW1 q.2 hw
theorem zpnX {f : Nat → Int32} {n b v r v2 r2 : Int32} {P : Prop} (F : v.toInt = sB f n.toInt b.toInt) (hi : zIs (oG v.toInt) r) (hr : r.toInt = 0) (F2 : v2.toInt = sB f n.toInt b.toInt) (hi2 : zIs (oG v2.toInt) r2) (hr2 : ¬ r2.toInt = 0) : P := by
  have h1 := zIs_f hi hr
  have h2 := zIs_t hi2 hr2
  rw [F2, ← F] at h2
  exact absurd h2 h1
/-- a closing sign -/
theorem zclA {f : Nat → Int32} {n wr a a' : Int32} {c : Int} {x : Int × Int} (hx : zW x wr a) (hw : ¬ wr.toInt = -1) : zW (sEnd (sB f n.toInt) n.toInt c x) wr a' := by
  obtain ⟨e, h0⟩ := zW_0 hx hw
  refine zW0 (p := wr.toInt) ?_ rfl h0
  rw [e]
  unfold sEnd
  rw [if_neg zne1]
theorem zclB {f : Nat → Int32} {n wr a a' v u : Int32} {c : Int} {x : Int × Int} (hx : zW x wr a) (hw : wr.toInt = -1) (hp : zLk f n a v u) (hc : v.toInt = c) (i : a'.toInt = u.toInt + 1) : zW (sEnd (sB f n.toInt) n.toInt c x) wr a' := by
  have e := zW_1 hx hw
  refine zW1 ?_ hw
  rw [e]
  unfold sEnd
  rw [if_pos rfl]
  show (if sB f n.toInt (sk (sB f n.toInt) n.toInt a.toInt) = c then ((1 : Int), sk (sB f n.toInt) n.toInt a.toInt + 1) else (0, sk (sB f n.toInt) n.toInt a.toInt)) = _
  rw [hp.1, if_pos (by rw [← hp.2]; exact hc), i]
theorem zclC {f : Nat → Int32} {n wr a a' v u wr' : Int32} {c : Int} {x : Int × Int} (hx : zW x wr a) (hw : wr.toInt = -1) (hp : zLk f n a v u) (hc : ¬ v.toInt = c) (i : wr'.toInt = u.toInt) (h0 : 0 ≤ u.toInt) : zW (sEnd (sB f n.toInt) n.toInt c x) wr' a' := by
  have e := zW_1 hx hw
  refine zW0 (p := u.toInt) ?_ i (by omega)
  rw [e]
  unfold sEnd
  rw [if_pos rfl]
  show (if sB f n.toInt (sk (sB f n.toInt) n.toInt a.toInt) = c then ((1 : Int), sk (sB f n.toInt) n.toInt a.toInt + 1) else (0, sk (sB f n.toInt) n.toInt a.toInt)) = _
  rw [hp.1, if_neg (by rw [← hp.2]; exact hc)]
/-- an atom -/
theorem sAtm_br (g : Int → Int) (n : Int) (K : Nat) (a : Int) (h : g (sk g n a) = 91) : sAtm g n (K + 1) a = sEnd g n 93 (sSum g n K (sk g n a + 1)) := by
  show sAt _ _ false (sSum _ _ K) _ = _
  unfold sAt sEnd
  rw [if_pos h, if_neg (by decide)]
theorem zaN {f : Nat → Int32} {n a v u r wr a' : Int32} {K : Nat} (h : zLk f n a v u) (hi : zIs (oG v.toInt) r) (hr : ¬ r.toInt = 0) (hx : zW (sNum (sB f n.toInt) u.toInt) wr a') : zW (sAtm (sB f n.toInt) n.toInt K a.toInt) wr a' := by
  have d := zdg h hi hr
  rw [sAtm_num (by rw [h.1]; omega) (by rw [h.1]; omega), h.1]
  exact hx
theorem zaL {f : Nat → Int32} {n a v u wr a' : Int32} {K : Nat} (h : zLk f n a v u) (hl : v.toInt = 102 ∨ v.toInt = 119 ∨ v.toInt = 121 ∨ v.toInt = 115 ∨ v.toInt = 97 ∨ v.toInt = 109) (i : a'.toInt = u.toInt + 1) (hw : wr.toInt = -1) : zW (sAtm (sB f n.toInt) n.toInt K a.toInt) wr a' := by
  refine zW1 ?_ hw
  rw [h.2, ← h.1] at hl
  rw [sAtm_let (by omega) hl, h.1, i]
theorem zaT {f : Nat → Int32} {n a v u wr a' : Int32} (h : zLk f n a v u) (hc : v.toInt = 91) (i : wr.toInt = u.toInt) (h0 : 0 ≤ u.toInt) : zW (sAtm (sB f n.toInt) n.toInt 0 a.toInt) wr a' := by
  refine zW0 (p := u.toInt) ?_ i (by omega)
  show sAt _ _ true sNo _ = _
  unfold sAt
  rw [h.1, if_pos (by rw [← h.2]; exact hc), if_pos rfl]
theorem zaB {f : Nat → Int32} {n a v u q wr a' : Int32} {K : Nat} (h : zLk f n a v u) (hc : v.toInt = 91) (i : q.toInt = u.toInt + 1) (hx : zW (sEnd (sB f n.toInt) n.toInt 93 (sSum (sB f n.toInt) n.toInt K q.toInt)) wr a') : zW (sAtm (sB f n.toInt) n.toInt (K + 1) a.toInt) wr a' := by
  rw [sAtm_br _ _ _ _ (by rw [h.1, ← h.2]; exact hc), h.1, ← i]
  exact hx
theorem zaX {f : Nat → Int32} {n a v u r wr a' : Int32} {K : Nat} (h : zLk f n a v u) (hi : zIs (oG v.toInt) r) (hr : r.toInt = 0) (hl : ¬ (v.toInt = 102 ∨ v.toInt = 119 ∨ v.toInt = 121 ∨ v.toInt = 115 ∨ v.toInt = 97 ∨ v.toInt = 109)) (hc : ¬ v.toInt = 91) (i : wr.toInt = u.toInt) (h0 : 0 ≤ u.toInt) : zW (sAtm (sB f n.toInt) n.toInt K a.toInt) wr a' := by
  have d := zIs_f hi hr
  rw [oG_iff, h.2] at d
  rw [h.2, ← h.1] at hl
  refine zW0 (p := u.toInt) ?_ i (by omega)
  rw [sAtm_num (by rw [h.1, ← h.2]; exact hc) hl, h.1]
  unfold sNum
  rw [if_pos d]
/-- a loop over pieces -/
def zLp (f : Nat → Int32) (n : Int32) (T : Int × Int) (op : Int → Bool) (F : Int → Int × Int) (wr a c : Int32) : Prop := (T = sLp (sB f n.toInt) n.toInt op F a.toInt ∧ wr.toInt = -1 ∧ c.toInt = sB f n.toInt a.toInt) ∨ (T = (0, wr.toInt) ∧ 0 ≤ wr.toInt ∧ c.toInt = -1)
theorem zlp0 {f : Nat → Int32} {n : Int32} {T : Int × Int} {op : Int → Bool} {F : Int → Int × Int} {a : Int} {wr u c w : Int32} (hT : T = sTm (sB f n.toInt) n.toInt op F a) (hF : zW (F a) wr u) (hw : wr.toInt = -1) (hp : zLk f n u c w) : zLp f n T op F wr w c := by
  refine Or.inl ⟨?_, hw, hp.2⟩
  rw [hT]
  unfold sTm
  rw [zW_1 hF hw, if_pos rfl]
  show sLp _ _ _ _ (sk (sB f n.toInt) n.toInt u.toInt) = _
  rw [hp.1]
theorem zlp1 {f : Nat → Int32} {n : Int32} {T : Int × Int} {op : Int → Bool} {F : Int → Int × Int} {a : Int} {wr u : Int32} (hT : T = sTm (sB f n.toInt) n.toInt op F a) (hF : zW (F a) wr u) (hw : ¬ wr.toInt = -1) : zLp f n T op F wr u (-1) := by
  obtain ⟨e, h0⟩ := zW_0 hF hw
  refine Or.inr ⟨?_, h0, by decide⟩
  rw [hT]
  unfold sTm
  rw [e, if_neg zne1]
theorem zlpS {f : Nat → Int32} {n wr a c q wr2 a2 c2 u2 : Int32} {T : Int × Int} {op : Int → Bool} {F : Int → Int × Int} (h : zLp f n T op F wr a c) (ho : op c.toInt = true) (h1 : op (-1) = false) (hq : q.toInt = a.toInt + 1) (hF : zW (F q.toInt) wr2 a2) (hw : wr2.toInt = -1) (hm : ∀ a, (F a).1 = 1 → a < (F a).2) (hp : zLk f n a2 c2 u2) : zLp f n T op F wr2 u2 c2 := by
  rcases h with z | z
  · have e := zW_1 hF hw
    have m := hm q.toInt (by rw [e])
    rw [e] at m
    have m : q.toInt < a2.toInt := m
    have k := sk_ge (sB f n.toInt) n.toInt a2.toInt
    have ho' : op (sB f n.toInt a.toInt) = true := by rw [← z.2.2]; exact ho
    have hl : a.toInt < n.toInt := (sB_lt (f := f) (n := n.toInt) (a := a.toInt) (fun y => by rw [y, h1] at ho'; exact absurd ho' (by decide))).2
    refine Or.inl ⟨?_, hw, hp.2⟩
    rw [z.1, sLp_go hl ho' (by rw [← hq, e]) (by rw [← hq, e]; show a.toInt < sk _ _ a2.toInt; omega), ← hq, e]
    show sLp _ _ _ _ (sk (sB f n.toInt) n.toInt a2.toInt) = _
    rw [hp.1]
  · rw [z.2.2, h1] at ho
    exact absurd ho (by decide)
theorem zlpB {f : Nat → Int32} {n wr a c q wr2 a2 : Int32} {T : Int × Int} {op : Int → Bool} {F : Int → Int × Int} (h : zLp f n T op F wr a c) (ho : op c.toInt = true) (h1 : op (-1) = false) (hq : q.toInt = a.toInt + 1) (hF : zW (F q.toInt) wr2 a2) (hw : ¬ wr2.toInt = -1) : zLp f n T op F wr2 a2 (-1) := by
  rcases h with z | z
  · obtain ⟨e, h0⟩ := zW_0 hF hw
    have ho' : op (sB f n.toInt a.toInt) = true := by rw [← z.2.2]; exact ho
    have hl : a.toInt < n.toInt := (sB_lt (f := f) (n := n.toInt) (a := a.toInt) (fun y => by rw [y, h1] at ho'; exact absurd ho' (by decide))).2
    refine Or.inr ⟨?_, h0, by decide⟩
    rw [z.1, sLp_bad hl ho' (by rw [← hq, e]; exact zne1), ← hq, e]
  · rw [z.2.2, h1] at ho
    exact absurd ho (by decide)
theorem zlpE {f : Nat → Int32} {n wr a c : Int32} {T : Int × Int} {op : Int → Bool} {F : Int → Int × Int} (h : zLp f n T op F wr a c) (ho : ¬ op c.toInt = true) : zW T wr a := by
  rcases h with z | z
  · refine zW1 ?_ z.2.1
    rw [z.1]
    exact sLp_end (fun y => ho (by rw [z.2.2]; exact y.2))
  · exact zW0 z.1 rfl z.2.1
theorem sSum_two (g : Int → Int) (n : Int) (K : Nat) (a : Int) : sSum g n K a = sTm g n oP (sTm g n oM (sAtm g n K)) a := by
  rw [sSum_eq]
  exact (sTm_two oA_two (sAtm_mono g n K) a).symm
theorem zcmN {f : Nat → Int32} {n a v u r wr a' : Int32} {s : Int → Int × Int} (h : zLk f n a v u) (hi : zIs (oQ v.toInt) r) (hr : r.toInt = 0) (i : wr.toInt = u.toInt) (h0 : 0 ≤ u.toInt) : zW (sCmp (sB f n.toInt) n.toInt s a.toInt) wr a' := by
  have d := zIs_f hi hr
  rw [oQ_iff, h.2] at d
  refine zW0 (p := u.toInt) ?_ i (by omega)
  unfold sCmp
  rw [h.1, if_neg d]
theorem zcmY {f : Nat → Int32} {n a v u r q wr a' : Int32} {s : Int → Int × Int} (h : zLk f n a v u) (hi : zIs (oQ v.toInt) r) (hr : ¬ r.toInt = 0) (i : q.toInt = u.toInt + 1) (hs : zW (s q.toInt) wr a') : zW (sCmp (sB f n.toInt) n.toInt s a.toInt) wr a' := by
  have d := oQ_iff.mp (zIs_t hi hr)
  rw [h.2] at d
  unfold sCmp
  rw [h.1, if_pos d, ← i]
  exact hs
theorem zunT {f : Nat → Int32} {n a v u wr a' : Int32} (h : zLk f n a v u) (hc : v.toInt = 33 ∨ v.toInt = 40) (i : wr.toInt = u.toInt) (h0 : 0 ≤ u.toInt) : zW (sUn (sB f n.toInt) n.toInt 0 a.toInt) wr a' := by
  refine zW0 (p := u.toInt) ?_ i (by omega)
  rw [h.2] at hc
  show sUn1 _ _ true _ _ _ = _
  unfold sUn1
  rw [h.1]
  rcases hc with hc | hc
  · rw [if_pos hc, if_pos rfl]
  · rw [if_neg (by omega), if_pos hc, if_pos rfl]
theorem zunN {f : Nat → Int32} {n a v u q wr a' : Int32} {K : Nat} (h : zLk f n a v u) (hc : v.toInt = 33) (i : q.toInt = u.toInt + 1) (hx : zW (sUn (sB f n.toInt) n.toInt K q.toInt) wr a') : zW (sUn (sB f n.toInt) n.toInt (K + 1) a.toInt) wr a' := by
  rw [h.2] at hc
  show zW (sUn1 _ _ false _ _ _) _ _
  unfold sUn1
  rw [h.1, if_pos hc, if_neg (by decide), ← i]
  exact hx
theorem zunP {f : Nat → Int32} {n a v u q wr a' : Int32} {K : Nat} (h : zLk f n a v u) (hc : v.toInt = 40) (i : q.toInt = u.toInt + 1) (hx : zW (sEnd (sB f n.toInt) n.toInt 41 (sCon (sB f n.toInt) n.toInt K q.toInt)) wr a') : zW (sUn (sB f n.toInt) n.toInt (K + 1) a.toInt) wr a' := by
  rw [h.2] at hc
  show zW (sUn1 _ _ false _ _ _) _ _
  unfold sUn1
  rw [h.1, if_neg (by omega), if_pos hc, if_neg (by decide), ← i]
  exact hx
theorem zunS {f : Nat → Int32} {n a v u : Int32} {K : Nat} (h : zLk f n a v u) (h1 : ¬ v.toInt = 33) (h2 : ¬ v.toInt = 40) : sUn (sB f n.toInt) n.toInt K a.toInt = (if (sSum (sB f n.toInt) n.toInt K u.toInt).1 = 1 then sCmp (sB f n.toInt) n.toInt (sSum (sB f n.toInt) n.toInt K) (sSum (sB f n.toInt) n.toInt K u.toInt).2 else (0, (sSum (sB f n.toInt) n.toInt K u.toInt).2)) := by
  rw [fu_sum (by rw [h.1, ← h.2]; exact h1) (by rw [h.1, ← h.2]; exact h2), ← h.1, sSum_sk]
theorem zunS0 {f : Nat → Int32} {n a v u wr a' : Int32} {K : Nat} (h : zLk f n a v u) (h1 : ¬ v.toInt = 33) (h2 : ¬ v.toInt = 40) (hs : zW (sSum (sB f n.toInt) n.toInt K u.toInt) wr a') (hw : ¬ wr.toInt = -1) : zW (sUn (sB f n.toInt) n.toInt K a.toInt) wr a' := by
  obtain ⟨e, h0⟩ := zW_0 hs hw
  rw [zunS h h1 h2, e, if_neg zne1]
  exact zW0 rfl rfl h0
theorem zunS1 {f : Nat → Int32} {n a v u wr a' wr2 a2 : Int32} {K : Nat} (h : zLk f n a v u) (h1 : ¬ v.toInt = 33) (h2 : ¬ v.toInt = 40) (hs : zW (sSum (sB f n.toInt) n.toInt K u.toInt) wr a') (hw : wr.toInt = -1) (hc : zW (sCmp (sB f n.toInt) n.toInt (sSum (sB f n.toInt) n.toInt K) a'.toInt) wr2 a2) : zW (sUn (sB f n.toInt) n.toInt K a.toInt) wr2 a2 := by
  rw [zunS h h1 h2, zW_1 hs hw, if_pos rfl]
  exact hc
/-- further pieces behind x -/
def sGl (g : Int → Int) (n : Int) (op : Int → Bool) (F : Int → Int × Int) (x : Int × Int) : Int × Int := if x.1 = 1 then sLp g n op F (sk g n x.2) else (0, x.2)
def zGl (f : Nat → Int32) (n : Int32) (T : Int × Int) (op : Int → Bool) (F : Int → Int × Int) (wr a : Int32) : Prop := (T = sLp (sB f n.toInt) n.toInt op F (sk (sB f n.toInt) n.toInt a.toInt) ∧ wr.toInt = -1) ∨ (T = (0, wr.toInt) ∧ 0 ≤ wr.toInt)
theorem zgl0 {f : Nat → Int32} {n wr a : Int32} {op : Int → Bool} {F : Int → Int × Int} {x : Int × Int} (h : zW x wr a) : zGl f n (sGl (sB f n.toInt) n.toInt op F x) op F wr a := by
  rcases h with q | q
  · refine Or.inl ⟨?_, q.2⟩
    unfold sGl
    rw [q.1, if_pos rfl]
  · refine Or.inr ⟨?_, q.2⟩
    unfold sGl
    rw [q.1, if_neg zne1]
theorem zglS {f : Nat → Int32} {n wr a v u q wr2 a2 : Int32} {T : Int × Int} {op : Int → Bool} {F : Int → Int × Int} (h : zGl f n T op F wr a) (hw : wr.toInt = -1) (hp : zLk f n a v u) (ho : op v.toInt = true) (h1 : op (-1) = false) (hq : q.toInt = u.toInt + 1) (hF : zW (F q.toInt) wr2 a2) (hm : ∀ a, (F a).1 = 1 → a < (F a).2) : zGl f n T op F wr2 a2 := by
  rcases h with z | z
  · have ho' : op (sB f n.toInt u.toInt) = true := by rw [← hp.2]; exact ho
    have hl : u.toInt < n.toInt := (sB_lt (f := f) (n := n.toInt) (a := u.toInt) (fun y => by rw [y, h1] at ho'; exact absurd ho' (by decide))).2
    rw [hp.1] at z
    rcases hF with e | e
    · have m := hm q.toInt (by rw [e.1])
      rw [e.1] at m
      have m : q.toInt < a2.toInt := m
      have k := sk_ge (sB f n.toInt) n.toInt a2.toInt
      refine Or.inl ⟨?_, e.2⟩
      rw [z.1, sLp_go hl ho' (by rw [← hq, e.1]) (by rw [← hq, e.1]; show u.toInt < sk _ _ a2.toInt; omega), ← hq, e.1]
    · refine Or.inr ⟨?_, e.2⟩
      rw [z.1, sLp_bad hl ho' (by rw [← hq, e.1]; exact zne1), ← hq, e.1]
  · omega
theorem zglE {f : Nat → Int32} {n wr a v u : Int32} {T : Int × Int} {op : Int → Bool} {F : Int → Int × Int} (h : zGl f n T op F wr a) (hw : wr.toInt = -1) (hp : zLk f n a v u) (ho : ¬ op v.toInt = true) : zW T wr u := by
  rcases h with z | z
  · refine zW1 ?_ hw
    rw [z.1, hp.1]
    exact sLp_end (fun y => ho (by rw [hp.2]; exact y.2))
  · omega
theorem zglW {f : Nat → Int32} {n wr a a' : Int32} {T : Int × Int} {op : Int → Bool} {F : Int → Int × Int} (h : zGl f n T op F wr a) (hw : ¬ wr.toInt = -1) : zW T wr a' := by
  rcases h with z | z
  · exact absurd z.2 hw
  · exact zW0 z.1 rfl z.2
theorem sCon_two (g : Int → Int) (n : Int) (K : Nat) (a : Int) : sCon g n K a = sGl g n oO (sTm g n oD (sUn g n K)) (sGl g n oD (sUn g n K) (sUn g n K a)) := (sTm_two oC_two (sUn_mono g n K) a).symm
theorem zLk_tr {f : Nat → Int32} {n a v u v2 u2 : Int32} (h : zLk f n a v u) (h2 : zLk f n u v2 u2) : zLk f n a v2 u2 := by
  have e : sk (sB f n.toInt) n.toInt a.toInt = u2.toInt := by rw [← h2.1, ← h.1, sk_id]
  exact ⟨e, h2.2⟩
theorem zLk_v {f : Nat → Int32} {n a v u v2 u2 : Int32} (h : zLk f n a v u) (h2 : zLk f n u v2 u2) : v2.toInt = v.toInt := by
  have e : u2.toInt = u.toInt := by rw [← h2.1, ← h.1, sk_id]
  rw [h2.2, h.2, e]
theorem sGl_two {g : Int → Int} {n : Int} {F : Int → Int × Int} (hm : ∀ a, (F a).1 = 1 → a < (F a).2) (x : Int × Int) : sGl g n oC F x = sGl g n oO (sTm g n oD F) (sGl g n oD F x) := by
  by_cases q : x.1 = 1
  · have e1 : sGl g n oD F x = sLp g n oD F (sk g n x.2) := by unfold sGl; rw [if_pos q]
    have e2 : sGl g n oC F x = sLp g n oC F (sk g n x.2) := by unfold sGl; rw [if_pos q]
    rw [e2, sLp_two oC_two hm _ _ (Nat.le_refl _) (sk_id g n _), e1]
    unfold sGl
    by_cases h : (sLp g n oD F (sk g n x.2)).1 = 1
    · rw [if_pos h, if_pos h, (sLp_ge hm _ _ (Nat.le_refl _) (sk_id g n x.2) h).2]
    · rw [if_neg h, if_neg h]
  · have e1 : sGl g n oD F x = (0, x.2) := by unfold sGl; rw [if_neg q]
    have e2 : sGl g n oC F x = (0, x.2) := by unfold sGl; rw [if_neg q]
    rw [e2, e1]
    unfold sGl
    rw [if_neg zne1]
theorem zqm0 {f : Nat → Int32} {n wr a a' : Int32} {Y : Int × Int} (h : zW Y wr a) (hw : ¬ wr.toInt = -1) : zW (sQm (sB f n.toInt) n.toInt Y) wr a' := by
  obtain ⟨e, h0⟩ := zW_0 h hw
  refine zW0 (p := wr.toInt) ?_ rfl h0
  rw [e]
  unfold sQm
  rw [if_neg zne1]
theorem zqmN {f : Nat → Int32} {n wr a a' v u wr' : Int32} {Y : Int × Int} (h : zW Y wr a) (hw : wr.toInt = -1) (hp : zLk f n a v u) (hc : ¬ v.toInt = 63) (i : wr'.toInt = u.toInt) (h0 : 0 ≤ u.toInt) : zW (sQm (sB f n.toInt) n.toInt Y) wr' a' := by
  refine zW0 (p := u.toInt) ?_ i (by omega)
  rw [zW_1 h hw]
  unfold sQm
  rw [if_pos rfl]
  show (if sB f n.toInt (sk (sB f n.toInt) n.toInt a.toInt) = 63 then sSum _ _ 6 (sk (sB f n.toInt) n.toInt a.toInt + 1) else (0, sk (sB f n.toInt) n.toInt a.toInt)) = _
  rw [hp.1, if_neg (by rw [← hp.2]; exact hc)]
theorem zqmY {f : Nat → Int32} {n wr a v u q wr2 a2 : Int32} {Y : Int × Int} (h : zW Y wr a) (hw : wr.toInt = -1) (hp : zLk f n a v u) (hc : v.toInt = 63) (i : q.toInt = u.toInt + 1) (hs : zW (sSum (sB f n.toInt) n.toInt 6 q.toInt) wr2 a2) : zW (sQm (sB f n.toInt) n.toInt Y) wr2 a2 := by
  rw [zW_1 h hw]
  unfold sQm
  rw [if_pos rfl]
  show zW (if sB f n.toInt (sk (sB f n.toInt) n.toInt a.toInt) = 63 then sSum _ _ 6 (sk (sB f n.toInt) n.toInt a.toInt + 1) else (0, sk (sB f n.toInt) n.toInt a.toInt)) _ _
  rw [hp.1, if_pos (by rw [← hp.2]; exact hc), ← i]
  exact hs
theorem zc2T {f : Nat → Int32} {n a v u wr a' : Int32} (h : zLk f n a v u) (hc : v.toInt = 33 ∨ v.toInt = 40) (hx : zW (sQm (sB f n.toInt) n.toInt (sCon (sB f n.toInt) n.toInt 6 u.toInt)) wr a') : zW (sCl2 (sB f n.toInt) n.toInt a.toInt) wr a' := by
  unfold sCl2
  rw [h.2, ← h.1] at hc
  rw [if_pos hc, ← sCon_sk, h.1]
  exact hx
theorem zc2S {f : Nat → Int32} {n a v u : Int32} (h : zLk f n a v u) (h1 : ¬ v.toInt = 33) (h2 : ¬ v.toInt = 40) : sCl2 (sB f n.toInt) n.toInt a.toInt = (if (sSum (sB f n.toInt) n.toInt 6 u.toInt).1 = 1 then
    (if sB f n.toInt (sk (sB f n.toInt) n.toInt (sSum (sB f n.toInt) n.toInt 6 u.toInt).2) = 61 ∨ sB f n.toInt (sk (sB f n.toInt) n.toInt (sSum (sB f n.toInt) n.toInt 6 u.toInt).2) = 60 ∨ sB f n.toInt (sk (sB f n.toInt) n.toInt (sSum (sB f n.toInt) n.toInt 6 u.toInt).2) = 62 then sQm (sB f n.toInt) n.toInt (sGo (sB f n.toInt) n.toInt (sSum (sB f n.toInt) n.toInt 6 u.toInt).2) else (1, sk (sB f n.toInt) n.toInt (sSum (sB f n.toInt) n.toInt 6 u.toInt).2))
  else (0, (sSum (sB f n.toInt) n.toInt 6 u.toInt).2)) := by
  unfold sCl2
  rw [if_neg (by rw [h.1, ← h.2]; omega), ← h.1, sSum_sk]
theorem zc2S0 {f : Nat → Int32} {n a v u wr a' a2 : Int32} (h : zLk f n a v u) (h1 : ¬ v.toInt = 33) (h2 : ¬ v.toInt = 40) (hs : zW (sSum (sB f n.toInt) n.toInt 6 u.toInt) wr a') (hw : ¬ wr.toInt = -1) : zW (sCl2 (sB f n.toInt) n.toInt a.toInt) wr a2 := by
  obtain ⟨e, h0⟩ := zW_0 hs hw
  rw [zc2S h h1 h2, e, if_neg zne1]
  exact zW0 rfl rfl h0
theorem zc2S1 {f : Nat → Int32} {n a v u wr a' v2 u2 r : Int32} (h : zLk f n a v u) (h1 : ¬ v.toInt = 33) (h2 : ¬ v.toInt = 40) (hs : zW (sSum (sB f n.toInt) n.toInt 6 u.toInt) wr a') (hw : wr.toInt = -1) (hp : zLk f n a' v2 u2) (hi : zIs (oQ v2.toInt) r) (hr : r.toInt = 0) : zW (sCl2 (sB f n.toInt) n.toInt a.toInt) wr u2 := by
  have d := zIs_f hi hr
  rw [oQ_iff, hp.2] at d
  refine zW1 ?_ hw
  rw [zc2S h h1 h2, zW_1 hs hw, if_pos rfl]
  show (if sB f n.toInt (sk (sB f n.toInt) n.toInt a'.toInt) = 61 ∨ sB f n.toInt (sk (sB f n.toInt) n.toInt a'.toInt) = 60 ∨ sB f n.toInt (sk (sB f n.toInt) n.toInt a'.toInt) = 62 then _ else ((1 : Int), sk (sB f n.toInt) n.toInt a'.toInt)) = _
  rw [hp.1, if_neg d]
theorem zc2S2 {f : Nat → Int32} {n a v u wr a' v2 u2 r wr2 a2 : Int32} (h : zLk f n a v u) (h1 : ¬ v.toInt = 33) (h2 : ¬ v.toInt = 40) (hs : zW (sSum (sB f n.toInt) n.toInt 6 u.toInt) wr a') (hw : wr.toInt = -1) (hp : zLk f n a' v2 u2) (hi : zIs (oQ v2.toInt) r) (hr : ¬ r.toInt = 0) (hx : zW (sQm (sB f n.toInt) n.toInt (sGo (sB f n.toInt) n.toInt u2.toInt)) wr2 a2) : zW (sCl2 (sB f n.toInt) n.toInt a.toInt) wr2 a2 := by
  have d := oQ_iff.mp (zIs_t hi hr)
  rw [hp.2] at d
  have e : sGo (sB f n.toInt) n.toInt u2.toInt = sGo (sB f n.toInt) n.toInt a'.toInt := by
    unfold sGo sCmp
    rw [← hp.1, sk_id]
  rw [zc2S h h1 h2, zW_1 hs hw, if_pos rfl]
  show zW (if sB f n.toInt (sk (sB f n.toInt) n.toInt a'.toInt) = 61 ∨ sB f n.toInt (sk (sB f n.toInt) n.toInt a'.toInt) = 60 ∨ sB f n.toInt (sk (sB f n.toInt) n.toInt a'.toInt) = 62 then sQm (sB f n.toInt) n.toInt (sGo (sB f n.toInt) n.toInt a'.toInt) else (1, sk (sB f n.toInt) n.toInt a'.toInt)) _ _
  rw [hp.1, if_pos d, ← e]
  exact hx
theorem zgo {f : Nat → Int32} {n a wr a' : Int32} (h : zW (sGl (sB f n.toInt) n.toInt oO (sTm (sB f n.toInt) n.toInt oD (sUn (sB f n.toInt) n.toInt 6)) (sGl (sB f n.toInt) n.toInt oD (sUn (sB f n.toInt) n.toInt 6) (sCmp (sB f n.toInt) n.toInt (sSum (sB f n.toInt) n.toInt 6) a.toInt))) wr a') : zW (sGo (sB f n.toInt) n.toInt a.toInt) wr a' := by
  rw [← sGl_two (sUn_mono _ _ 6)] at h
  exact h
theorem zclY {f : Nat → Int32} {n a v u wr a' : Int32} (h : zLk f n a v u) (hc : ¬ v.toInt = 121) (i : wr.toInt = u.toInt) (h0 : 0 ≤ u.toInt) : zW (sCl (sB f n.toInt) n.toInt a.toInt) wr a' := by
  refine zW0 (p := u.toInt) ?_ i (by omega)
  unfold sCl
  rw [h.1, if_neg (by rw [← h.2]; exact hc)]
theorem zcl1 {f : Nat → Int32} {n a v u q v2 u2 : Int32} (h : zLk f n a v u) (hc : v.toInt = 121) (i : q.toInt = u.toInt + 1) (h2 : zLk f n q v2 u2) : sCl (sB f n.toInt) n.toInt a.toInt = (if v2.toInt = 58 then sCl2 (sB f n.toInt) n.toInt (u2.toInt + 1) else (0, u2.toInt)) := by
  unfold sCl
  rw [h.1, if_pos (by rw [← h.2]; exact hc), ← i, h2.1, ← h2.2]
theorem zclN {f : Nat → Int32} {n a v u q v2 u2 wr a' : Int32} (h : zLk f n a v u) (hc : v.toInt = 121) (i : q.toInt = u.toInt + 1) (h2 : zLk f n q v2 u2) (hc2 : ¬ v2.toInt = 58) (iw : wr.toInt = u2.toInt) (h0 : 0 ≤ u2.toInt) : zW (sCl (sB f n.toInt) n.toInt a.toInt) wr a' := by
  rw [zcl1 h hc i h2, if_neg hc2]
  exact zW0 rfl iw (by omega)
theorem zclX {f : Nat → Int32} {n a v u q v2 u2 q2 wr a' : Int32} (h : zLk f n a v u) (hc : v.toInt = 121) (i : q.toInt = u.toInt + 1) (h2 : zLk f n q v2 u2) (hc2 : v2.toInt = 58) (i2 : q2.toInt = u2.toInt + 1) (hx : zW (sCl2 (sB f n.toInt) n.toInt q2.toInt) wr a') : zW (sCl (sB f n.toInt) n.toInt a.toInt) wr a' := by
  rw [zcl1 h hc i h2, if_pos hc2, ← i2]
  exact hx
theorem zfin0 {f : Nat → Int32} {n wr a : Int32} {x : Int × Int} (h : zW x wr a) (hw : ¬ wr.toInt = -1) : wr.toInt = sFin (sB f n.toInt) n.toInt x := by
  obtain ⟨e, h0⟩ := zW_0 h hw
  rw [e]
  unfold sFin
  rw [if_neg zne1]
theorem zfin1 {f : Nat → Int32} {n wr a v u r : Int32} {x : Int × Int} (h : zW x wr a) (hw : wr.toInt = -1) (hp : zLk f n a v u) (h0 : 0 ≤ u.toInt) (hv : v.toInt = -1) (hr : r.toInt = -1) (hb : zTy n f) : r.toInt = sFin (sB f n.toInt) n.toInt x := by
  rw [zW_1 h hw]
  unfold sFin
  rw [if_pos rfl]
  show r.toInt = (if n.toInt ≤ sk (sB f n.toInt) n.toInt a.toInt then -1 else sk (sB f n.toInt) n.toInt a.toInt)
  have e := hp.2
  rw [hp.1, if_pos]
  · exact hr
  · by_cases q : n.toInt ≤ u.toInt
    · exact q
    · have z : sB f n.toInt u.toInt = (f u.toInt.toNat).toInt := by unfold sB; rw [if_pos ⟨h0, by omega⟩]
      have y := (hb u.toInt.toNat (by omega)).1
      omega
theorem zfin2 {f : Nat → Int32} {n wr a v u r : Int32} {x : Int × Int} (h : zW x wr a) (hw : wr.toInt = -1) (hp : zLk f n a v u) (hv : ¬ v.toInt = -1) (hr : r.toInt = u.toInt) : r.toInt = sFin (sB f n.toInt) n.toInt x := by
  rw [zW_1 h hw]
  unfold sFin
  rw [if_pos rfl]
  show r.toInt = (if n.toInt ≤ sk (sB f n.toInt) n.toInt a.toInt then -1 else sk (sB f n.toInt) n.toInt a.toInt)
  have l := sB_lt (f := f) (n := n.toInt) (a := u.toInt) (by rw [← hp.2]; exact hv)
  rw [hp.1, if_neg (by omega)]
  exact hr
