/-! the reference's reader of a court -/
theorem znmA {f : Nat → Int32} {n a v u r wr a' : Int32} {hi : Int} (h : zLk f n a v u) (hg : zIs (oG v.toInt) r) (hr : r.toInt = 0) (i : wr.toInt = u.toInt) (h0 : 0 ≤ u.toInt) : zW (sNm2 (sB f n.toInt) hi (sk (sB f n.toInt) n.toInt a.toInt)) wr a' := by
  have d := zIs_f hg hr
  rw [oG_iff, h.2] at d
  refine zW0 (p := u.toInt) ?_ i (by omega)
  unfold sNm2
  rw [h.1, if_pos d]
/-- one digit -/
theorem znm1 {f : Nat → Int32} {n a v u r q w r2 x : Int32} {hi : Int} (h : zLk f n a v u) (hg : zIs (oG v.toInt) r) (hr : ¬ r.toInt = 0) (hq : q.toInt = u.toInt + 1) (F : w.toInt = sB f n.toInt q.toInt) (hg2 : zIs (oG w.toInt) r2) (hr2 : r2.toInt = 0) (hx : x.toInt = sB f n.toInt u.toInt - 48) : sNm2 (sB f n.toInt) hi (sk (sB f n.toInt) n.toInt a.toInt) = (if x.toInt ≤ hi then (1, q.toInt) else (0, u.toInt)) := by
  have d := zdg h hg hr
  have d2 := zIs_f hg2 hr2
  rw [oG_iff, F, hq] at d2
  unfold sNm2
  rw [h.1, if_neg (fun z => z d), if_pos d2, hx, hq]
/-- three digits -/
theorem znm2 {f : Nat → Int32} {n a v u r q w r2 q2 w2 r3 wr a' : Int32} {hi : Int} (h : zLk f n a v u) (hg : zIs (oG v.toInt) r) (hr : ¬ r.toInt = 0) (hq : q.toInt = u.toInt + 1) (F : w.toInt = sB f n.toInt q.toInt) (hg2 : zIs (oG w.toInt) r2) (hr2 : ¬ r2.toInt = 0) (hq2 : q2.toInt = q.toInt + 1) (F2 : w2.toInt = sB f n.toInt q2.toInt) (hg3 : zIs (oG w2.toInt) r3) (hr3 : ¬ r3.toInt = 0) (i : wr.toInt = q2.toInt) (h0 : 0 ≤ u.toInt) : zW (sNm2 (sB f n.toInt) hi (sk (sB f n.toInt) n.toInt a.toInt)) wr a' := by
  have d := zdg h hg hr
  have d2 := oG_iff.mp (zIs_t hg2 hr2)
  have d3 := oG_iff.mp (zIs_t hg3 hr3)
  rw [F, hq] at d2
  rw [F2, show q2.toInt = u.toInt + 2 by omega] at d3
  refine zW0 (p := u.toInt + 2) ?_ (by omega) (by omega)
  unfold sNm2
  rw [h.1, if_neg (fun z => z d), if_neg (fun z => z d2), if_pos d3]
/-- two digits -/
theorem znm3 {f : Nat → Int32} {n a v u r q w r2 q2 w2 r3 x : Int32} {hi : Int} (h : zLk f n a v u) (hg : zIs (oG v.toInt) r) (hr : ¬ r.toInt = 0) (hq : q.toInt = u.toInt + 1) (F : w.toInt = sB f n.toInt q.toInt) (hg2 : zIs (oG w.toInt) r2) (hr2 : ¬ r2.toInt = 0) (hq2 : q2.toInt = q.toInt + 1) (F2 : w2.toInt = sB f n.toInt q2.toInt) (hg3 : zIs (oG w2.toInt) r3) (hr3 : r3.toInt = 0) (hx : x.toInt = 10 * (sB f n.toInt u.toInt - 48) + (sB f n.toInt q.toInt - 48)) : sNm2 (sB f n.toInt) hi (sk (sB f n.toInt) n.toInt a.toInt) = (if x.toInt ≤ hi then (1, q2.toInt) else (0, q.toInt)) := by
  have d := zdg h hg hr
  have d2 := oG_iff.mp (zIs_t hg2 hr2)
  have d3 := zIs_f hg3 hr3
  rw [F, hq] at d2
  rw [oG_iff, F2, show q2.toInt = u.toInt + 2 by omega] at d3
  rw [hq] at hx
  unfold sNm2
  rw [h.1, if_neg (fun z => z d), if_neg (fun z => z d2), if_neg d3, hx, hq, show q2.toInt = u.toInt + 2 by omega]
theorem znmY {x hi : Int} {q u : Int} {X : Int × Int} {wr a' : Int32} (h : X = (if x ≤ hi then (1, q) else (0, u))) (hx : x ≤ hi) (hw : wr.toInt = -1) (ha : a'.toInt = q) : zW X wr a' := by
  rw [if_pos hx, ← ha] at h
  exact zW1 h hw
theorem znmN {x hi : Int} {q u : Int} {X : Int × Int} {wr a' : Int32} (h : X = (if x ≤ hi then (1, q) else (0, u))) (hx : hi < x) (hw : wr.toInt = u) (h0 : 0 ≤ wr.toInt) : zW X wr a' := by
  rw [if_neg (by omega)] at h
  exact zW0 h hw h0
/-- items: right so far, the letter that is next (k); or wrong -/
def zIn (f : Nat → Int32) (n : Int32) (T : Int × Int) (cl : Nat) (hd wr a k : Int32) : Prop := (T = sIts (sB f n.toInt) n.toInt cl hd a.toInt ∧ sk (sB f n.toInt) n.toInt a.toInt = a.toInt ∧ wr.toInt = -1 ∧ k = cIt cl (sB f n.toInt a.toInt)) ∨ (T = (0, wr.toInt) ∧ 0 ≤ wr.toInt)
theorem zin0 {f : Nat → Int32} {n a v u k wr hd : Int32} {cl : Nat} (h : zLk f n a v u) (hk : k = cIt cl v.toInt) (hw : wr.toInt = -1) : zIn f n (sIts (sB f n.toInt) n.toInt cl hd a.toInt) cl hd wr u k := by
  have e : sk (sB f n.toInt) n.toInt u.toInt = u.toInt := by rw [← h.1, sk_id]
  refine Or.inl ⟨?_, e, hw, by rw [hk, h.2]⟩
  rw [← h.1, sIts_sk]
theorem zin_c {f : Nat → Int32} {n a k hd : Int32} {cl : Nat} (hs : sk (sB f n.toInt) n.toInt a.toInt = a.toInt) (hk : k = cIt cl (sB f n.toInt a.toInt)) (h1 : ¬ k.toInt = -1) (h2 : ¬ cBt hd k = 1) : sk (sB f n.toInt) n.toInt a.toInt < n.toInt ∧ ¬ cIt cl (sB f n.toInt (sk (sB f n.toInt) n.toInt a.toInt)) = -1 ∧ ¬ cBt hd (cIt cl (sB f n.toInt (sk (sB f n.toInt) n.toInt a.toInt))) = 1 := by
  rw [hs, ← hk]
  refine ⟨(sB_lt (f := f) (n := n.toInt) (a := a.toInt) (fun z => ?_)).2, fun z => h1 (by rw [z]; decide), h2⟩
  rw [z, cIt_no cl (by omega)] at hk
  exact h1 (by rw [hk]; decide)
theorem zin_1 {f : Nat → Int32} {n a k q b : Int32} {cl : Nat} (hs : sk (sB f n.toInt) n.toInt a.toInt = a.toInt) (hk : k = cIt cl (sB f n.toInt a.toInt)) (hq : q.toInt = a.toInt + 1) (hb : b.toInt = cHi cl k) : sIt1 (sB f n.toInt) n.toInt cl (sk (sB f n.toInt) n.toInt a.toInt) = sNm2 (sB f n.toInt) b.toInt (sk (sB f n.toInt) n.toInt q.toInt) := by
  unfold sIt1
  rw [hs, ← hk, ← hb, ← hq]
theorem zin_go {f : Nat → Int32} {n wr a k hd q b wr2 a2 v u k2 : Int32} {cl : Nat} {T : Int × Int} (h : zIn f n T cl hd wr a k) (hw : wr.toInt = -1) (h1 : ¬ k.toInt = -1) (h2 : ¬ cBt hd k = 1) (hq : q.toInt = a.toInt + 1) (hb : b.toInt = cHi cl k) (hx : zW (sNm2 (sB f n.toInt) b.toInt (sk (sB f n.toInt) n.toInt q.toInt)) wr2 a2) (hw2 : wr2.toInt = -1) (hp : zLk f n a2 v u) (hk2 : k2 = cIt cl v.toInt) : zIn f n T cl (cOr hd k) wr2 u k2 := by
  rcases h with z | z
  · obtain ⟨e1, hs, -, hk⟩ := z
    have e := zin_1 hs hk hq hb
    have y := zW_1 hx hw2
    have m := sNm2_mono (sB f n.toInt) b.toInt (sk (sB f n.toInt) n.toInt q.toInt) (by rw [y])
    rw [y] at m
    have m : sk (sB f n.toInt) n.toInt q.toInt < a2.toInt := m
    have m2 := sk_ge (sB f n.toInt) n.toInt q.toInt
    have w := zin0 (wr := wr2) (hd := cOr hd k) hp hk2 hw2
    rw [e1, sIts_go (zin_c hs hk h1 h2) (by rw [e, y]) (by rw [e, y]; show a.toInt < a2.toInt; omega), e, y, hs, ← hk]
    exact w
  · omega
theorem zin_bad {f : Nat → Int32} {n wr a k hd q b wr2 a2 k2 hd2 a3 : Int32} {cl : Nat} {T : Int × Int} (h : zIn f n T cl hd wr a k) (hw : wr.toInt = -1) (h1 : ¬ k.toInt = -1) (h2 : ¬ cBt hd k = 1) (hq : q.toInt = a.toInt + 1) (hb : b.toInt = cHi cl k) (hx : zW (sNm2 (sB f n.toInt) b.toInt (sk (sB f n.toInt) n.toInt q.toInt)) wr2 a2) (hw2 : ¬ wr2.toInt = -1) : zIn f n T cl hd2 wr2 a3 k2 := by
  rcases h with z | z
  · obtain ⟨e1, hs, -, hk⟩ := z
    have e := zin_1 hs hk hq hb
    obtain ⟨y, h0⟩ := zW_0 hx hw2
    refine Or.inr ⟨?_, h0⟩
    rw [e1, sIts_bad (zin_c hs hk h1 h2) (by rw [e, y]; exact zne1), e, y]
  · omega
theorem zin_end {f : Nat → Int32} {n wr a k hd : Int32} {cl : Nat} {T : Int × Int} (h : zIn f n T cl hd wr a k) (hc : ¬ wr.toInt = -1 ∨ k.toInt = -1 ∨ cBt hd k = 1) : zW T wr a := by
  rcases h with z | z
  · obtain ⟨e1, hs, hw, hk⟩ := z
    refine zW1 ?_ hw
    rw [e1, sIts_end (fun y => ?_), hs]
    rw [hs, ← hk] at y
    rcases hc with q | q | q
    · exact q hw
    · exact y.2.1 (Int32.toInt_inj.mp (q.trans (by decide)))
    · exact y.2.2 q
  · exact zW0 z.1 rfl z.2
/-- a court: between two clauses (more: one is to come) -/
def zRr (f : Nat → Int32) (n m wr a hr nb np : Int32) : Prop := (m.toInt = 1 ∧ wr.toInt = -1 ∧ sCrt (sB f n.toInt) n.toInt = sCo (sB f n.toInt) n.toInt (hr.toInt, nb.toInt, np.toInt) a.toInt) ∨ (m.toInt = 0 ∧ wr.toInt = -1 ∧ sk (sB f n.toInt) n.toInt a.toInt = a.toInt ∧ sCrt (sB f n.toInt) n.toInt = sCe n.toInt a.toInt (hr.toInt, nb.toInt, np.toInt)) ∨ (m.toInt = 0 ∧ 0 ≤ wr.toInt ∧ (sCrt (sB f n.toInt) n.toInt).1 = wr.toInt)
theorem zRr0 {f : Nat → Int32} {n : Int32} : zRr f n 1 (-1) 0 0 0 0 := Or.inl ⟨by decide, by decide, rfl⟩
/-- a clause: its answer, what was had -/
def zRc_ (f : Nat → Int32) (n a hr nb np wr u hr' nb' np' : Int32) : Prop := zW (sCc (sB f n.toInt) n.toInt hr.toInt nb.toInt np.toInt a.toInt) wr u ∧ sCs hr.toInt nb.toInt np.toInt (sB f n.toInt (sk (sB f n.toInt) n.toInt a.toInt)) = (hr'.toInt, nb'.toInt, np'.toInt)
theorem zrc_s {f : Nat → Int32} {n a c u q wr w hr nb np : Int32} (hp : zLk f n a c u) (hc : c.toInt = 115) (h0 : hr.toInt = 0) (hq : q.toInt = u.toInt + 1) (hx : zW (sIts (sB f n.toInt) n.toInt 0 0 q.toInt) wr w) : zRc_ f n a hr nb np wr w 1 nb np := by
  have e : sB f n.toInt (sk (sB f n.toInt) n.toInt a.toInt) = 115 := by rw [hp.1, ← hp.2]; exact hc
  constructor
  · unfold sCc
    rw [if_pos ⟨e, h0⟩, hp.1, ← hq]
    exact hx
  · unfold sCs
    rw [if_pos ⟨e, h0⟩]
    rfl
theorem zrc_b {f : Nat → Int32} {n a c u q wr w hr nb np nb' : Int32} (hp : zLk f n a c u) (hc : c.toInt = 98) (h0 : nb.toInt < 6) (hq : q.toInt = u.toInt + 1) (hb : nb'.toInt = nb.toInt + 1) (hx : zW (sIts (sB f n.toInt) n.toInt 1 0 q.toInt) wr w) : zRc_ f n a hr nb np wr w hr nb' np := by
  have e : sB f n.toInt (sk (sB f n.toInt) n.toInt a.toInt) = 98 := by rw [hp.1, ← hp.2]; exact hc
  constructor
  · unfold sCc
    rw [if_neg (by omega), if_pos ⟨e, h0⟩, hp.1, ← hq]
    exact hx
  · unfold sCs
    rw [if_neg (by omega), if_pos ⟨e, h0⟩, hb]
theorem zrc_p {f : Nat → Int32} {n a c u q wr w hr nb np np' : Int32} (hp : zLk f n a c u) (hc : c.toInt = 112) (h0 : np.toInt < 5) (hq : q.toInt = u.toInt + 1) (hb : np'.toInt = np.toInt + 1) (hx : zW (sIts (sB f n.toInt) n.toInt 2 0 q.toInt) wr w) : zRc_ f n a hr nb np wr w hr nb np' := by
  have e : sB f n.toInt (sk (sB f n.toInt) n.toInt a.toInt) = 112 := by rw [hp.1, ← hp.2]; exact hc
  constructor
  · unfold sCc
    rw [if_neg (by omega), if_neg (by omega), if_pos ⟨e, h0⟩, hp.1, ← hq]
    exact hx
  · unfold sCs
    rw [if_neg (by omega), if_neg (by omega), if_pos ⟨e, h0⟩, hb]
theorem zrc_n {f : Nat → Int32} {n a c u wr w hr nb np : Int32} (hp : zLk f n a c u) (h1 : ¬ (c.toInt = 115 ∧ hr.toInt = 0)) (h2 : ¬ (c.toInt = 98 ∧ nb.toInt < 6)) (h3 : ¬ (c.toInt = 112 ∧ np.toInt < 5)) (i : wr.toInt = u.toInt) (h0 : 0 ≤ u.toInt) : zRc_ f n a hr nb np wr w hr nb np := by
  have e : sB f n.toInt (sk (sB f n.toInt) n.toInt a.toInt) = c.toInt := by rw [hp.1, ← hp.2]
  constructor
  · refine zW0 (p := u.toInt) ?_ i (by omega)
    unfold sCc
    rw [e, if_neg h1, if_neg h2, if_neg h3, hp.1]
  · unfold sCs
    rw [e, if_neg h1, if_neg h2, if_neg h3]
/-- behind a clause: a further one comes; none comes; it was wrong -/
theorem zrr_m {f : Nat → Int32} {n m wr a hr nb np wr2 u hr2 nb2 np2 v w q m2 : Int32} (h : zRr f n m wr a hr nb np) (hm : ¬ m.toInt = 0) (hc : zRc_ f n a hr nb np wr2 u hr2 nb2 np2) (hw : wr2.toInt = -1) (hp : zLk f n u v w) (hv : v.toInt = 59) (hq : q.toInt = w.toInt + 1) (hm2 : m2.toInt = 1) : zRr f n m2 wr2 q hr2 nb2 np2 := by
  rcases h with z | z | z
  · refine Or.inl ⟨hm2, hw, ?_⟩
    have l := sB_lt (f := f) (n := n.toInt) (a := w.toInt) (by rw [← hp.2]; omega)
    rw [z.2.2, sCo_eq]
    show sCk _ _ (sCs hr.toInt nb.toInt np.toInt _) (sCc _ _ hr.toInt nb.toInt np.toInt _) = _
    rw [hc.2, zW_1 hc.1 hw]
    unfold sCk
    rw [if_pos rfl]
    show (if sk (sB f n.toInt) n.toInt u.toInt < n.toInt ∧ sB f n.toInt (sk (sB f n.toInt) n.toInt u.toInt) = 59 then sCo _ _ _ (sk (sB f n.toInt) n.toInt u.toInt + 1) else _) = _
    rw [hp.1, if_pos ⟨l.2, by rw [← hp.2]; exact hv⟩, ← hq]
  · omega
  · omega
theorem zrr_e {f : Nat → Int32} {n m wr a hr nb np wr2 u hr2 nb2 np2 v w q m2 : Int32} (h : zRr f n m wr a hr nb np) (hm : ¬ m.toInt = 0) (hc : zRc_ f n a hr nb np wr2 u hr2 nb2 np2) (hw : wr2.toInt = -1) (hp : zLk f n u v w) (hv : ¬ v.toInt = 59) (hq : q.toInt = w.toInt) (hm2 : m2.toInt = 0) : zRr f n m2 wr2 q hr2 nb2 np2 := by
  rcases h with z | z | z
  · refine Or.inr (Or.inl ⟨hm2, hw, by rw [hq, ← hp.1, sk_id], ?_⟩)
    rw [z.2.2, sCo_eq]
    show sCk _ _ (sCs hr.toInt nb.toInt np.toInt _) (sCc _ _ hr.toInt nb.toInt np.toInt _) = _
    rw [hc.2, zW_1 hc.1 hw]
    unfold sCk
    rw [if_pos rfl]
    show (if sk (sB f n.toInt) n.toInt u.toInt < n.toInt ∧ sB f n.toInt (sk (sB f n.toInt) n.toInt u.toInt) = 59 then sCo _ _ _ (sk (sB f n.toInt) n.toInt u.toInt + 1) else _) = _
    rw [hp.1, if_neg (fun y => hv (by rw [hp.2]; exact y.2)), hq]
  · omega
  · omega
theorem zrr_w {f : Nat → Int32} {n m wr a hr nb np wr2 u hr2 nb2 np2 q hr3 nb3 np3 m2 : Int32} (h : zRr f n m wr a hr nb np) (hm : ¬ m.toInt = 0) (hc : zRc_ f n a hr nb np wr2 u hr2 nb2 np2) (hw : ¬ wr2.toInt = -1) (hm2 : m2.toInt = 0) : zRr f n m2 wr2 q hr3 nb3 np3 := by
  rcases h with z | z | z
  · obtain ⟨y, h0⟩ := zW_0 hc.1 hw
    refine Or.inr (Or.inr ⟨hm2, h0, ?_⟩)
    rw [z.2.2, sCo_eq]
    show (sCk _ _ _ (sCc _ _ hr.toInt nb.toInt np.toInt _)).1 = _
    rw [y]
    unfold sCk
    rw [if_neg zne1]
  · omega
  · omega
theorem zrr_f {f : Nat → Int32} {n m wr a hr nb np r : Int32} (h : zRr f n m wr a hr nb np) (hw : ¬ wr.toInt = -1) (hr' : r.toInt = wr.toInt) : (sCrt (sB f n.toInt) n.toInt).1 = r.toInt := by
  rcases h with z | z | z
  · exact absurd z.2.1 hw
  · exact absurd z.2.1 hw
  · rw [hr']
    exact z.2.2
theorem zrr_g {f : Nat → Int32} {n m wr a hr nb np v u r : Int32} (h : zRr f n m wr a hr nb np) (hm : m.toInt = 0) (hw : wr.toInt = -1) (hp : zLk f n a v u) (h0 : 0 ≤ u.toInt) (hb : zTy n f) (hc : v.toInt = -1 ∧ 0 < nb.toInt ∧ 0 < np.toInt) (hr' : r.toInt = -1) : sCrt (sB f n.toInt) n.toInt = (r.toInt, hr.toInt, nb.toInt, np.toInt) := by
  rcases h with z | z | z
  · omega
  · have e : u.toInt = a.toInt := by rw [← hp.1, z.2.2.1]
    rw [z.2.2.2, hr']
    unfold sCe
    have l : n.toInt ≤ u.toInt := by
      by_cases q : n.toInt ≤ u.toInt
      · exact q
      · have y : sB f n.toInt u.toInt = (f u.toInt.toNat).toInt := by unfold sB; rw [if_pos ⟨h0, by omega⟩]
        have y2 := (hb u.toInt.toNat (by omega)).1
        have y3 := hp.2
        omega
    rw [if_pos ⟨by omega, hc.2.1, hc.2.2⟩]
  · omega
theorem zrr_h {f : Nat → Int32} {n m wr a hr nb np v u r : Int32} (h : zRr f n m wr a hr nb np) (hm : m.toInt = 0) (hw : wr.toInt = -1) (hp : zLk f n a v u) (hc : ¬ (v.toInt = -1 ∧ 0 < nb.toInt ∧ 0 < np.toInt)) (hr' : r.toInt = u.toInt) : (sCrt (sB f n.toInt) n.toInt).1 = r.toInt := by
  rcases h with z | z | z
  · omega
  · have e : u.toInt = a.toInt := by rw [← hp.1, z.2.2.1]
    rw [z.2.2.2, hr', e]
    unfold sCe
    show (if n.toInt ≤ a.toInt ∧ 0 < nb.toInt ∧ 0 < np.toInt then _ else _ : Int × Int × Int × Int).1 = _
    rw [if_neg (fun y => hc ⟨by rw [hp.2, e]; exact sB_end y.1, y.2.1, y.2.2⟩)]
  · omega
