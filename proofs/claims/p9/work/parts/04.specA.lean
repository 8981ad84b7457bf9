/-! the reference's reader of a court: the numbers -/
def zInV (f : Nat → Int32) (n : Int32) (cl N b : Nat) (a0 : Int) (r0 r : Nat → Int32) (hd wr a : Int32) : Prop := wr.toInt = -1 → (∀ j : Nat, j < N → sIv (sB f n.toInt) n.toInt cl j 0 a0 (cDf cl j) = sIv (sB f n.toInt) n.toInt cl j hd a.toInt (r (b + j)).toInt) ∧ ∀ j : Nat, j < b → r j = r0 j
/-- rows filled with what is usual, up to k -/
def zUs (cl b : Nat) (r0 r : Nat → Int32) (k : Int32) : Prop := (∀ j : Nat, (j : Int) < k.toInt → (r (b + j)).toInt = cDf cl j) ∧ ∀ j : Nat, j < b → r j = r0 j
theorem zUs0 {cl b : Nat} {r : Nat → Int32} : zUs cl b r r 0 := ⟨fun j hj => by rw [show (0 : Int32).toInt = 0 from by decide] at hj; omega, fun _ _ => rfl⟩
theorem zUsS {cl b : Nat} {r0 r r' : Nat → Int32} {k k' i x : Int32} (h : zUs cl b r0 r k) (e : r' = upd r i.toNatClampNeg x) (hi : i.toInt = (b : Int) + k.toInt) (h0 : 0 ≤ k.toInt) (hx : x.toInt = cDf cl k.toInt.toNat) (hk : k'.toInt = k.toInt + 1) : zUs cl b r0 r' k' := by
  have ii : i.toNatClampNeg = i.toInt.toNat := rfl
  refine ⟨fun j hj => ?_, fun j hj => ?_⟩
  · by_cases c : j = k.toInt.toNat
    · rw [e, show b + j = i.toNatClampNeg by omega, pk_us, hx, c]
    · rw [e, pk_un (by omega)]
      exact h.1 j (by omega)
  · rw [e, pk_un (by omega)]
    exact h.2 j hj
theorem zinV0 {f : Nat → Int32} {n a v u wr k : Int32} {cl N b : Nat} {r0 r : Nat → Int32} (h : zLk f n a v u) (hu : zUs cl b r0 r k) (hk : (N : Int) ≤ k.toInt) : zInV f n cl N b a.toInt r0 r 0 wr u := by
  intro _
  refine ⟨fun j hj => ?_, hu.2⟩
  rw [← h.1, sIv_sk, hu.1 j (by omega)]
theorem zinVS {f : Nat → Int32} {n wr a k hd q b wr2 a2 v' u x i : Int32} {cl N bs : Nat} {a0 : Int} {r0 r r' : Nat → Int32} {T : Int × Int} (h : zInV f n cl N bs a0 r0 r hd wr a) (hI : zIn f n T cl hd wr a k) (hw : wr.toInt = -1) (h1 : ¬ k.toInt = -1) (h2 : ¬ cBt hd k = 1) (hq : q.toInt = a.toInt + 1) (hb : b.toInt = cHi cl k) (hx : zW (sNm2 (sB f n.toInt) b.toInt (sk (sB f n.toInt) n.toInt q.toInt)) wr2 a2) (hw2 : wr2.toInt = -1) (hv : wr2.toInt = -1 → x.toInt = sVl2 (sB f n.toInt) (sk (sB f n.toInt) n.toInt q.toInt)) (hp : zLk f n a2 v' u) (e : r' = upd r i.toNatClampNeg x) (hi : i.toInt = (bs : Int) + k.toInt) (h0 : 0 ≤ k.toInt) : zInV f n cl N bs a0 r0 r' (cOr hd k) wr2 u := by
  intro _
  have ki : k.toNatClampNeg = k.toInt.toNat := rfl
  have ii : i.toNatClampNeg = i.toInt.toNat := rfl
  rcases hI with z | z
  · obtain ⟨e1, hs, -, hk⟩ := z
    have e := zin_1 hs hk hq hb
    have y := zW_1 hx hw2
    have m := sNm2_mono (sB f n.toInt) b.toInt (sk (sB f n.toInt) n.toInt q.toInt) (by rw [y])
    rw [y] at m
    have m : sk (sB f n.toInt) n.toInt q.toInt < a2.toInt := m
    have m2 := sk_ge (sB f n.toInt) n.toInt q.toInt
    refine ⟨fun j hj => ?_, fun j hj => ?_⟩
    · rw [(h hw).1 j hj, sIv_go (zin_c hs hk h1 h2) (by rw [e, y]) (by rw [e, y]; show a.toInt < a2.toInt; omega), e, y, hs, ← hk, ← hq, ← hp.1, sIv_sk]
      have y9 : (if j = k.toNatClampNeg then sVl2 (sB f n.toInt) (sk (sB f n.toInt) n.toInt q.toInt) else (r (bs + j)).toInt) = (r' (bs + j)).toInt := by
        by_cases c9 : j = k.toNatClampNeg
        · rw [if_pos c9, ‹r' = _›, show bs + j = i.toNatClampNeg by omega, pk_us, hv hw2]
        · rw [if_neg c9, ‹r' = _›, pk_un (by omega)]
      rw [y9]
    · rw [‹r' = _›, pk_un (by omega)]
      exact (h hw).2 j hj
  · omega
theorem zinVB {f : Nat → Int32} {n wr a hd : Int32} {cl N b : Nat} {a0 : Int} {r0 r : Nat → Int32} (hw : ¬ wr.toInt = -1) : zInV f n cl N b a0 r0 r hd wr a := fun z => absurd z hw
/-- what the reference's items leave -/
def zIg (f : Nat → Int32) (n : Int32) (cl N b : Nat) (a0 : Int) (r0 r : Nat → Int32) : Prop := (∀ j : Nat, j < N → (r (b + j)).toInt = sIv (sB f n.toInt) n.toInt cl j 0 a0 (cDf cl j)) ∧ ∀ j : Nat, j < b → r j = r0 j
theorem zinVE {f : Nat → Int32} {n wr a k hd : Int32} {cl N b : Nat} {a0 : Int} {r0 r : Nat → Int32} {T : Int × Int} (h : zInV f n cl N b a0 r0 r hd wr a) (hI : zIn f n T cl hd wr a k) (hc : ¬ wr.toInt = -1 ∨ k.toInt = -1 ∨ cBt hd k = 1) : wr.toInt = -1 → zIg f n cl N b a0 r0 r := by
  intro hw
  rcases hI with z | z
  · obtain ⟨e1, hs, -, hk⟩ := z
    refine ⟨fun j hj => ?_, (h hw).2⟩
    rw [(h hw).1 j hj]
    symm
    refine sIv_end (fun y => ?_)
    rw [hs, ← hk] at y
    rcases hc with q | q | q
    · exact q hw
    · exact y.2.1 (Int32.toInt_inj.mp (q.trans (by decide)))
    · exact y.2.2 q
  · omega
/-- the reference's clause -/
def zRcw (f : Nat → Int32) (n a hr nb np : Int32) (fr fb fp : Nat → Int32) (wr nb' np' : Int32) (fr' fb' fp' : Nat → Int32) : Prop := wr.toInt = -1 → ∀ c : zK3, zCn fr fb fp nb.toInt np.toInt c → zCn fr' fb' fp' nb'.toInt np'.toInt (sCv (sB f n.toInt) n.toInt hr.toInt nb.toInt np.toInt a.toInt c)
theorem zrw_s {f : Nat → Int32} {n a c u q wr hr nb np : Int32} {fr fb fp fr' : Nat → Int32} {b : Nat} (hp : zLk f n a c u) (hc : c.toInt = 115) (h0 : hr.toInt = 0) (hq : q.toInt = u.toInt + 1) (hb : b = 0) (hi : wr.toInt = -1 → zIg f n 0 3 b q.toInt fr fr') : zRcw f n a hr nb np fr fb fp wr nb np fr' fb fp := by
  intro hw cc hn
  have e : sB f n.toInt (sk (sB f n.toInt) n.toInt a.toInt) = 115 := by rw [hp.1, ← hp.2]; exact hc
  have i := hi hw
  subst hb
  unfold sCv
  rw [if_pos ⟨e, h0⟩, hp.1, ← hq]
  refine ⟨fun j hj => ?_, hn.2.1, hn.2.2⟩
  have y := i.1 j hj
  rw [Nat.zero_add] at y
  exact zof y
theorem zAt_r {fb fb' : Nat → Int32} {f : Nat → Int32} {n nb nb' q : Int32} {cl b : Nat} {B : Nat → Int32} (hv : (b : Int) = 4 * nb.toInt) (hi : zIg f n cl 4 b q.toInt fb fb') (hn : ∀ j : Nat, (j : Int) < 4 * nb.toInt → fb j = B j) (hb : nb'.toInt = nb.toInt + 1) : ∀ j : Nat, (j : Int) < 4 * nb'.toInt → fb' j = sRw nb.toInt B (sVr (sB f n.toInt) n.toInt cl q.toInt) j := by
  intro j hj
  unfold sRw
  by_cases c : (j : Int) < 4 * nb.toInt
  · rw [if_pos c, hi.2 j (by omega)]
    exact hn j c
  · rw [if_neg c]
    have y := hi.1 (j - (4 * nb.toInt).toNat) (by omega)
    rw [show b + (j - (4 * nb.toInt).toNat) = j by omega] at y
    exact zof y
theorem zrw_b {f : Nat → Int32} {n a c u q wr hr nb np nb' : Int32} {fr fb fp fb' : Nat → Int32} {b : Nat} (hp : zLk f n a c u) (hc : c.toInt = 98) (h0 : nb.toInt < 6) (hq : q.toInt = u.toInt + 1) (hb : nb'.toInt = nb.toInt + 1) (hv : (b : Int) = 4 * nb.toInt) (hi : wr.toInt = -1 → zIg f n 1 4 b q.toInt fb fb') : zRcw f n a hr nb np fr fb fp wr nb' np fr fb' fp := by
  intro hw cc hn
  have e : sB f n.toInt (sk (sB f n.toInt) n.toInt a.toInt) = 98 := by rw [hp.1, ← hp.2]; exact hc
  unfold sCv
  rw [if_neg (by omega), if_pos ⟨e, h0⟩, hp.1, ← hq]
  exact ⟨hn.1, zAt_r hv (hi hw) hn.2.1 hb, hn.2.2⟩
theorem zrw_p {f : Nat → Int32} {n a c u q wr hr nb np np' : Int32} {fr fb fp fp' : Nat → Int32} {b : Nat} (hp : zLk f n a c u) (hc : c.toInt = 112) (h0 : np.toInt < 5) (hq : q.toInt = u.toInt + 1) (hb : np'.toInt = np.toInt + 1) (hv : (b : Int) = 4 * np.toInt) (hi : wr.toInt = -1 → zIg f n 2 4 b q.toInt fp fp') : zRcw f n a hr nb np fr fb fp wr nb np' fr fb fp' := by
  intro hw cc hn
  have e : sB f n.toInt (sk (sB f n.toInt) n.toInt a.toInt) = 112 := by rw [hp.1, ← hp.2]; exact hc
  unfold sCv
  rw [if_neg (by omega), if_neg (by omega), if_pos ⟨e, h0⟩, hp.1, ← hq]
  exact ⟨hn.1, hn.2.1, zAt_r hv (hi hw) hn.2.2 hb⟩
/-- the reference between clauses -/
def zRrV (f : Nat → Int32) (n m wr a hr nb np : Int32) (fr fb fp : Nat → Int32) : Prop := wr.toInt = -1 → ∃ c : zK3, zCn fr fb fp nb.toInt np.toInt c ∧ (m.toInt = 1 → sCrtV (sB f n.toInt) n.toInt = sCoV (sB f n.toInt) n.toInt (hr.toInt, nb.toInt, np.toInt) a.toInt c) ∧ (m.toInt = 0 → sCrtV (sB f n.toInt) n.toInt = c)
theorem zRrV0 {f : Nat → Int32} {n wr k : Int32} {r0 fr fb fp : Nat → Int32} (hu : zUs 0 0 r0 fr k) (hk : 3 ≤ k.toInt) : zRrV f n 1 wr 0 0 0 0 fr fb fp := by
  intro _
  refine ⟨zC0, ⟨fun j hj => ?_, fun j hj => ?_, fun j hj => ?_⟩, fun _ => rfl, fun z => absurd z (by decide)⟩
  · have y := hu.1 j (by omega)
    rw [Nat.zero_add] at y
    exact zof y
  · rw [show (0 : Int32).toInt = 0 from by decide] at hj
    omega
  · rw [show (0 : Int32).toInt = 0 from by decide] at hj
    omega
theorem zrrV_m {f : Nat → Int32} {n m wr a hr nb np wr2 u hr2 nb2 np2 v w q m2 : Int32} {fr fb fp fr2 fb2 fp2 : Nat → Int32} (h : zRrV f n m wr a hr nb np fr fb fp) (hm : m.toInt = 1) (hw0 : wr.toInt = -1) (hc : zRc_ f n a hr nb np wr2 u hr2 nb2 np2) (hv2 : zRcw f n a hr nb np fr fb fp wr2 nb2 np2 fr2 fb2 fp2) (hw : wr2.toInt = -1) (hp : zLk f n u v w) (hv : v.toInt = 59) (hq : q.toInt = w.toInt + 1) (hm2 : m2.toInt = 1) : zRrV f n m2 wr2 q hr2 nb2 np2 fr2 fb2 fp2 := by
  intro _
  obtain ⟨c, hn, e1, -⟩ := h hw0
  refine ⟨_, hv2 hw c hn, fun _ => ?_, fun z => by omega⟩
  have l := sB_lt (f := f) (n := n.toInt) (a := w.toInt) (by rw [← hp.2]; omega)
  rw [e1 hm, sCoV_eq]
  show sCkV _ _ (sCs hr.toInt nb.toInt np.toInt _) (sCc _ _ hr.toInt nb.toInt np.toInt _) _ = _
  rw [hc.2, zW_1 hc.1 hw]
  unfold sCkV
  rw [if_pos rfl]
  show (if sk (sB f n.toInt) n.toInt u.toInt < n.toInt ∧ sB f n.toInt (sk (sB f n.toInt) n.toInt u.toInt) = 59 then sCoV _ _ _ (sk (sB f n.toInt) n.toInt u.toInt + 1) _ else _) = _
  rw [hp.1, if_pos ⟨l.2, by rw [← hp.2]; exact hv⟩, ← hq]
theorem zrrV_e {f : Nat → Int32} {n m wr a hr nb np wr2 u hr2 nb2 np2 v w q m2 : Int32} {fr fb fp fr2 fb2 fp2 : Nat → Int32} (h : zRrV f n m wr a hr nb np fr fb fp) (hm : m.toInt = 1) (hw0 : wr.toInt = -1) (hc : zRc_ f n a hr nb np wr2 u hr2 nb2 np2) (hv2 : zRcw f n a hr nb np fr fb fp wr2 nb2 np2 fr2 fb2 fp2) (hw : wr2.toInt = -1) (hp : zLk f n u v w) (hv : ¬ v.toInt = 59) (hm2 : m2.toInt = 0) : zRrV f n m2 wr2 q hr2 nb2 np2 fr2 fb2 fp2 := by
  intro _
  obtain ⟨c, hn, e1, -⟩ := h hw0
  refine ⟨_, hv2 hw c hn, fun z => by omega, fun _ => ?_⟩
  rw [e1 hm, sCoV_eq]
  show sCkV _ _ (sCs hr.toInt nb.toInt np.toInt _) (sCc _ _ hr.toInt nb.toInt np.toInt _) _ = _
  rw [hc.2, zW_1 hc.1 hw]
  unfold sCkV
  rw [if_pos rfl]
  show (if sk (sB f n.toInt) n.toInt u.toInt < n.toInt ∧ sB f n.toInt (sk (sB f n.toInt) n.toInt u.toInt) = 59 then sCoV _ _ _ (sk (sB f n.toInt) n.toInt u.toInt + 1) _ else _) = _
  rw [hp.1, if_neg (fun y => hv (by rw [hp.2]; exact y.2))]
theorem zrrV_w {f : Nat → Int32} {n m wr a hr nb np : Int32} {fr fb fp : Nat → Int32} (hw : ¬ wr.toInt = -1) : zRrV f n m wr a hr nb np fr fb fp := fun z => absurd z hw
theorem zrrV_g {f : Nat → Int32} {n m wr a hr nb np : Int32} {fr fb fp : Nat → Int32} (h : zRrV f n m wr a hr nb np fr fb fp) (hm : m.toInt = 0) (hw : wr.toInt = -1) : zCn fr fb fp nb.toInt np.toInt (sCrtV (sB f n.toInt) n.toInt) := by
  obtain ⟨c, hn, -, e⟩ := h hw
  rw [e hm]
  exact hn
/-- one row holds what another does -/
theorem zCn_eq {fr fb fp gr gb gp : Nat → Int32} {nb np : Int} {c : zK3} (h : zCn fr fb fp nb np c) (e1 : ∀ j : Nat, j < 3 → gr j = fr j) (e2 : ∀ j : Nat, (j : Int) < 4 * nb → gb j = fb j) (e3 : ∀ j : Nat, (j : Int) < 4 * np → gp j = fp j) : zCn gr gb gp nb np c := ⟨fun j hj => (e1 j hj).trans (h.1 j hj), fun j hj => (e2 j hj).trans (h.2.1 j hj), fun j hj => (e3 j hj).trans (h.2.2 j hj)⟩
