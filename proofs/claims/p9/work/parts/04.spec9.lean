/-! what a court's text tells: its numbers -/
def cDf (cl : Nat) (j : Nat) : Int :=
  match cl with
  | 0 => if j = 0 then 40 else if j = 1 then 5 else 3
  | 1 => if j = 0 then 5 else if j = 1 then 20 else if j = 2 then 1 else 2
  | _ => if j = 2 then 3 else if j = 3 then 0 else 5
/-- the number of item j, x if it is not told -/
def sIv (g : Int → Int) (n : Int) (cl : Nat) (j : Nat) (hd : Int32) (a x : Int) : Int :=
  if _h : sk g n a < n ∧ ¬ cIt cl (g (sk g n a)) = -1 ∧ ¬ cBt hd (cIt cl (g (sk g n a))) = 1 then
    if (sIt1 g n cl (sk g n a)).1 = 1 then
      (if _h2 : a < (sIt1 g n cl (sk g n a)).2 then sIv g n cl j (cOr hd (cIt cl (g (sk g n a)))) (sIt1 g n cl (sk g n a)).2 (if j = (cIt cl (g (sk g n a))).toNatClampNeg then sVl2 g (sk g n (sk g n a + 1)) else x) else x)
    else x
  else x
termination_by (n - a).toNat
decreasing_by
  have := sk_ge g n a
  omega
theorem sIv_end {g : Int → Int} {n : Int} {cl j : Nat} {hd : Int32} {a x : Int} (h : ¬ (sk g n a < n ∧ ¬ cIt cl (g (sk g n a)) = -1 ∧ ¬ cBt hd (cIt cl (g (sk g n a))) = 1)) : sIv g n cl j hd a x = x := by
  rw [sIv, dif_neg h]
theorem sIv_go {g : Int → Int} {n : Int} {cl j : Nat} {hd : Int32} {a x : Int} (h : sk g n a < n ∧ ¬ cIt cl (g (sk g n a)) = -1 ∧ ¬ cBt hd (cIt cl (g (sk g n a))) = 1) (h2 : (sIt1 g n cl (sk g n a)).1 = 1) (h3 : a < (sIt1 g n cl (sk g n a)).2) : sIv g n cl j hd a x = sIv g n cl j (cOr hd (cIt cl (g (sk g n a)))) (sIt1 g n cl (sk g n a)).2 (if j = (cIt cl (g (sk g n a))).toNatClampNeg then sVl2 g (sk g n (sk g n a + 1)) else x) := by
  rw [sIv, dif_pos h, if_pos h2, dif_pos h3]
theorem sIv_bad {g : Int → Int} {n : Int} {cl j : Nat} {hd : Int32} {a x : Int} (h : sk g n a < n ∧ ¬ cIt cl (g (sk g n a)) = -1 ∧ ¬ cBt hd (cIt cl (g (sk g n a))) = 1) (h2 : ¬ (sIt1 g n cl (sk g n a)).1 = 1) : sIv g n cl j hd a x = x := by
  rw [sIv, dif_pos h, if_neg h2]
theorem sIv_sk (g : Int → Int) (n : Int) (cl j : Nat) (hd : Int32) (a x : Int) : sIv g n cl j hd (sk g n a) x = sIv g n cl j hd a x := by
  have e := sk_id g n a
  by_cases h : sk g n a < n ∧ ¬ cIt cl (g (sk g n a)) = -1 ∧ ¬ cBt hd (cIt cl (g (sk g n a))) = 1
  · by_cases h2 : (sIt1 g n cl (sk g n a)).1 = 1
    · have h4 : sk g n a < (sIt1 g n cl (sk g n a)).2 := by
        have k := sk_ge g n (sk g n a + 1)
        have m : sk g n (sk g n a + 1) < (sIt1 g n cl (sk g n a)).2 := sNm2_mono g _ _ h2
        omega
      have k := sk_ge g n a
      rw [sIv_go (a := a) h h2 (by omega), sIv_go (a := sk g n a) (by rw [e]; exact h) (by rw [e]; exact h2) (by rw [e]; exact h4), e]
    · rw [sIv_bad (a := a) h h2, sIv_bad (a := sk g n a) (by rw [e]; exact h) (by rw [e]; exact h2)]
  · rw [sIv_end (a := a) h, sIv_end (a := sk g n a) (by rw [e]; exact h)]
/-- the class's items: what stands in the row (from b on), against what stood there -/
def zIv (f : Nat → Int32) (n : Int32) (cl N b : Nat) (a0 : Int) (r0 r : Nat → Int32) (hd a : Int32) : Prop := (∀ j : Nat, j < N → sIv (sB f n.toInt) n.toInt cl j 0 a0 (r0 (b + j)).toInt = sIv (sB f n.toInt) n.toInt cl j hd a.toInt (r (b + j)).toInt) ∧ ∀ j : Nat, j < b → r j = r0 j
def zIe (f : Nat → Int32) (n : Int32) (cl N b : Nat) (a0 : Int) (r0 r : Nat → Int32) : Prop := (∀ j : Nat, j < N → (r (b + j)).toInt = sIv (sB f n.toInt) n.toInt cl j 0 a0 (r0 (b + j)).toInt) ∧ ∀ j : Nat, j < b → r j = r0 j
theorem zIv0 {f : Nat → Int32} {n a : Int32} {cl N b : Nat} {r : Nat → Int32} : zIv f n cl N b a.toInt r r 0 a := ⟨fun _ _ => rfl, fun _ _ => rfl⟩
theorem zIvS {f : Nat → Int32} {n a c u k hd q c2 u2 b v w i : Int32} {cl N bs : Nat} {a0 : Int} {r0 r r' : Nat → Int32} (h : zIv f n cl N bs a0 r0 r hd a) (hp : zPK f n a c u) (hk : k = cIt cl c.toInt) (h1 : ¬ k.toInt = -1) (h2 : ¬ cBt hd k = 1) (hq : q.toInt = u.toInt + 1) (hp2 : zPK f n q c2 u2) (hb : b.toInt = cHi cl k) (hn : zN2 f n u2 b v w) (hr : ¬ v.toInt = -1) (hm : a.toInt < w.toInt) (e : r' = upd r i.toNatClampNeg v) (hi : i.toInt = (bs : Int) + k.toInt) (h0 : 0 ≤ k.toInt) : zIv f n cl N bs a0 r0 r' (cOr hd k) w := by
  have e1 := zit_1 hp hk hq hp2 hb
  have ki : k.toNatClampNeg = k.toInt.toNat := rfl
  have ii : i.toNatClampNeg = i.toInt.toNat := rfl
  rcases hn with z | z
  · exact absurd z.1 hr
  · refine ⟨fun j hj => ?_, fun j hj => ?_⟩
    · rw [h.1 j hj, sIv_go (zit_c hp hk h1 h2) (by rw [e1, z.2.2]) (by rw [e1, z.2.2]; exact hm), e1, z.2.2, zit_k hp, ← hk]
      have y : (if j = k.toNatClampNeg then sVl2 (sB f n.toInt) (sk (sB f n.toInt) n.toInt (sk (sB f n.toInt) n.toInt a.toInt + 1)) else (r (bs + j)).toInt) = (r' (bs + j)).toInt := by
        by_cases c9 : j = k.toNatClampNeg
        · rw [if_pos c9, e, show bs + j = i.toNatClampNeg by omega, pk_us, z.2.1, hp.1, ← hq, hp2.1]
        · rw [if_neg c9, e, pk_un (by omega)]
      rw [y]
    · rw [e, pk_un (by omega)]
      exact h.2 j hj
theorem zIvF {f : Nat → Int32} {n a hd i : Int32} {cl N b : Nat} {a0 : Int} {r0 r : Nat → Int32} (h : zIv f n cl N b a0 r0 r hd a) (hp : (cl = 0 ∧ zPc 3 hd i ∧ 3 ≤ i.toInt) ∨ (¬ cl = 0 ∧ zPc 4 hd i ∧ 4 ≤ i.toInt)) : zIe f n cl N b a0 r0 r := by
  refine ⟨fun j hj => ?_, h.2⟩
  rw [h.1 j hj]
  symm
  refine sIv_end (fun z => ?_)
  rcases cIt_rng cl (sB f n.toInt (sk (sB f n.toInt) n.toInt a.toInt)) with e | e
  · exact z.2.1 e
  · rcases hp with q | q
    · rw [if_pos q.1] at e
      exact z.2.2 (zPcF3 q.2.1 q.2.2 e.1 e.2)
    · rw [if_neg q.1] at e
      exact z.2.2 (zPcF4 q.2.1 q.2.2 e.1 e.2)
theorem zIvN {f : Nat → Int32} {n a c u k hd : Int32} {cl N b : Nat} {a0 : Int} {r0 r : Nat → Int32} (h : zIv f n cl N b a0 r0 r hd a) (hp : zPK f n a c u) (hk : k = cIt cl c.toInt) (hc : k.toInt = -1 ∨ cBt hd k = 1) : zIe f n cl N b a0 r0 r := by
  refine ⟨fun j hj => ?_, h.2⟩
  rw [h.1 j hj]
  symm
  refine sIv_end (fun z => ?_)
  rw [zit_k hp, ← hk] at z
  rcases hc with q | q
  · exact z.2.1 (Int32.toInt_inj.mp (q.trans (by decide)))
  · exact z.2.2 q
/-- the numbers of a court: rules, brides, painters -/
abbrev zK3 : Type := (Nat → Int32) × (Nat → Int32) × (Nat → Int32)
def sVr (g : Int → Int) (n : Int) (cl : Nat) (q : Int) (j : Nat) : Int32 := Int32.ofInt (sIv g n cl j 0 q (cDf cl j))
def sRw (m : Int) (f h : Nat → Int32) : Nat → Int32 := fun j => if (j : Int) < 4 * m then f j else h (j - (4 * m).toNat)
def sCv (g : Int → Int) (n hr nb np a : Int) (c : zK3) : zK3 :=
  if g (sk g n a) = 115 ∧ hr = 0 then (sVr g n 0 (sk g n a + 1), c.2.1, c.2.2)
  else if g (sk g n a) = 98 ∧ nb < 6 then (c.1, sRw nb c.2.1 (sVr g n 1 (sk g n a + 1)), c.2.2)
  else if g (sk g n a) = 112 ∧ np < 5 then (c.1, c.2.1, sRw np c.2.2 (sVr g n 2 (sk g n a + 1)))
  else c
def sCoV (g : Int → Int) (n : Int) (s : Int × Int × Int) (a : Int) (c : zK3) : zK3 :=
  if (sCc g n s.1 s.2.1 s.2.2 a).1 = 1 then
    (if _h : sk g n (sCc g n s.1 s.2.1 s.2.2 a).2 < n ∧ g (sk g n (sCc g n s.1 s.2.1 s.2.2 a).2) = 59 ∧ a ≤ sk g n (sCc g n s.1 s.2.1 s.2.2 a).2 then
      sCoV g n (sCs s.1 s.2.1 s.2.2 (g (sk g n a))) (sk g n (sCc g n s.1 s.2.1 s.2.2 a).2 + 1) (sCv g n s.1 s.2.1 s.2.2 a c)
    else sCv g n s.1 s.2.1 s.2.2 a c)
  else sCv g n s.1 s.2.1 s.2.2 a c
termination_by (n - a).toNat
decreasing_by omega
def sCkV (g : Int → Int) (n : Int) (s : Int × Int × Int) (x : Int × Int) (c : zK3) : zK3 :=
  if x.1 = 1 then (if sk g n x.2 < n ∧ g (sk g n x.2) = 59 then sCoV g n s (sk g n x.2 + 1) c else c) else c
theorem sCoV_eq (g : Int → Int) (n : Int) (s : Int × Int × Int) (a : Int) (c : zK3) : sCoV g n s a c = sCkV g n (sCs s.1 s.2.1 s.2.2 (g (sk g n a))) (sCc g n s.1 s.2.1 s.2.2 a) (sCv g n s.1 s.2.1 s.2.2 a c) := by
  rw [sCoV]
  unfold sCkV
  by_cases h : (sCc g n s.1 s.2.1 s.2.2 a).1 = 1
  · have m := sCc_ge h
    have k := sk_ge g n (sCc g n s.1 s.2.1 s.2.2 a).2
    rw [if_pos h, if_pos h]
    by_cases c9 : sk g n (sCc g n s.1 s.2.1 s.2.2 a).2 < n ∧ g (sk g n (sCc g n s.1 s.2.1 s.2.2 a).2) = 59
    · rw [dif_pos ⟨c9.1, c9.2, by omega⟩, if_pos c9]
    · rw [dif_neg (fun z => c9 ⟨z.1, z.2.1⟩), if_neg c9]
  · rw [if_neg h, if_neg h]
theorem sCkV_sk {g : Int → Int} {n : Int} {s : Int × Int × Int} {u : Int} {c : zK3} : sCkV g n s (1, sk g n u) c = sCkV g n s (1, u) c := by
  unfold sCkV
  rw [if_pos rfl, if_pos rfl]
  show (if sk g n (sk g n u) < n ∧ g (sk g n (sk g n u)) = 59 then _ else _) = (if sk g n u < n ∧ g (sk g n u) = 59 then _ else _)
  rw [sk_id]
theorem sCkV_fs {f : Nat → Int32} {n r u : Int32} {s : Int × Int × Int} {x : Int × Int} {c : zK3} (h : zFs f n x r u) : sCkV (sB f n.toInt) n.toInt s x c = sCkV (sB f n.toInt) n.toInt s (r.toInt, u.toInt) c := by
  rcases h with q | q
  · rw [q.2, q.1, sCkV_sk]
  · rw [q.2, q.1]
def zC0 : zK3 := (fun j => Int32.ofInt (cDf 0 j), fun _ => 0, fun _ => 0)
/-- the numbers that a court's text tells -/
def sCrtV (g : Int → Int) (n : Int) : zK3 := sCoV g n (0, 0, 0) 0 zC0
/-- rows hold these numbers -/
def zCn (fr fb fp : Nat → Int32) (nb np : Int) (c : zK3) : Prop := (∀ j : Nat, j < 3 → fr j = c.1 j) ∧ (∀ j : Nat, (j : Int) < 4 * nb → fb j = c.2.1 j) ∧ ∀ j : Nat, (j : Int) < 4 * np → fp j = c.2.2 j
def zR0 (hr : Int) (fr : Nat → Int32) : Prop := hr = 0 → ∀ j : Nat, j < 3 → (fr j).toInt = cDf 0 j
theorem zof {x : Int32} {y : Int} (h : x.toInt = y) : x = Int32.ofInt y := by
  rw [← h]
  exact (Int32.ofInt_toInt x).symm
theorem cDf_t3 : ∀ j : Nat, j < 3 → (zTl 3 j).toInt = cDf 0 j := by decide
theorem cDf_t6 : ∀ j : Nat, j < 4 → (zTl 6 j).toInt = cDf 1 j := by decide
theorem cDf_t9 : ∀ j : Nat, j < 4 → (zTl 9 j).toInt = cDf 2 j := by decide
/-- the class's clause: what the rows hold -/
def zCw (f : Nat → Int32) (n a hr nb np : Int32) (fr fb fp : Nat → Int32) (r hr' nb' np' : Int32) (fr' fb' fp' : Nat → Int32) : Prop := r.toInt = 1 → zR0 hr.toInt fr → ∀ c : zK3, zCn fr fb fp nb.toInt np.toInt c → zCn fr' fb' fp' nb'.toInt np'.toInt (sCv (sB f n.toInt) n.toInt hr.toInt nb.toInt np.toInt a.toInt c) ∧ zR0 hr'.toInt fr'
theorem zcw_s {f : Nat → Int32} {n a c u q r hr nb np : Int32} {fr fb fp fr' : Nat → Int32} {b : Nat} (hp : zPK f n a c u) (hc : c.toInt = 115) (h0 : hr.toInt = 0) (hq : q.toInt = u.toInt + 1) (hb : b = 0) (hi : r.toInt = 1 → zIe f n 0 3 b q.toInt fr fr') : zCw f n a hr nb np fr fb fp r 1 nb np fr' fb fp := by
  intro hr1 hz cc hn
  have e := (zpk_is hp (c := 115) (by decide)).mpr hc
  have i := hi hr1
  subst hb
  unfold sCv
  rw [if_pos ⟨e, h0⟩, hp.1, ← hq]
  refine ⟨⟨fun j hj => ?_, hn.2.1, hn.2.2⟩, fun z => absurd (show (1 : Int32).toInt = 0 from z) (by decide)⟩
  have y := i.1 j hj
  rw [Nat.zero_add, hz h0 j hj] at y
  exact zof y
theorem zAt_b {fb fb1 fb' tf : Nat → Int32} {f : Nat → Int32} {n nb nb' q v : Int32} {cl t : Nat} {B : Nat → Int32} (e : fb1 = va_cpy tf fb (0 : Int32).toNatClampNeg v.toNatClampNeg (4 : Int32).toNatClampNeg) (hv : v.toInt = nb.toInt * 4) (hb0 : 0 ≤ nb.toInt) (ht : ∀ j : Nat, j < 4 → tf j = zTl t j) (hd : ∀ j : Nat, j < 4 → (zTl t j).toInt = cDf cl j) (hi : zIe f n cl 4 v.toInt.toNat q.toInt fb1 fb') (hn : ∀ j : Nat, (j : Int) < 4 * nb.toInt → fb j = B j) (hb : nb'.toInt = nb.toInt + 1) : ∀ j : Nat, (j : Int) < 4 * nb'.toInt → fb' j = sRw nb.toInt B (sVr (sB f n.toInt) n.toInt cl q.toInt) j := by
  intro j hj
  have e : fb1 = va_cpy tf fb 0 v.toInt.toNat 4 := e
  unfold sRw
  by_cases c : (j : Int) < 4 * nb.toInt
  · rw [if_pos c, hi.2 j (by omega), e, pk_cpy_out (by omega)]
    exact hn j c
  · rw [if_neg c]
    have y := hi.1 (j - (4 * nb.toInt).toNat) (by omega)
    rw [e, pk_cpy_in (by omega) (by omega)] at y
    rw [show 0 + (v.toInt.toNat + (j - (4 * nb.toInt).toNat) - v.toInt.toNat) = j - (4 * nb.toInt).toNat by omega, ht _ (by omega), hd _ (by omega), show v.toInt.toNat + (j - (4 * nb.toInt).toNat) = j by omega] at y
    exact zof y
theorem zcw_b {f : Nat → Int32} {n a c u q r hr nb np nb' v : Int32} {fr fb fp fb1 fb' tf : Nat → Int32} (hp : zPK f n a c u) (hc : c.toInt = 98) (h0 : nb.toInt < 6) (hb0 : 0 ≤ nb.toInt) (hq : q.toInt = u.toInt + 1) (hb : nb'.toInt = nb.toInt + 1) (ht : ∀ j : Nat, j < 4 → tf j = zTl 6 j) (e1 : fb1 = va_cpy tf fb (0 : Int32).toNatClampNeg v.toNatClampNeg (4 : Int32).toNatClampNeg) (hv : v.toInt = nb.toInt * 4) (hi : r.toInt = 1 → zIe f n 1 4 v.toInt.toNat q.toInt fb1 fb') : zCw f n a hr nb np fr fb fp r hr nb' np fr fb' fp := by
  intro hr1 hz cc hn
  have e := (zpk_is hp (c := 98) (by decide)).mpr hc
  unfold sCv
  rw [if_neg (by omega), if_pos ⟨e, h0⟩, hp.1, ← hq]
  exact ⟨⟨hn.1, zAt_b e1 hv hb0 ht cDf_t6 (hi hr1) hn.2.1 hb, hn.2.2⟩, hz⟩
theorem zcw_p {f : Nat → Int32} {n a c u q r hr nb np np' v : Int32} {fr fb fp fp1 fp' tf : Nat → Int32} (hp : zPK f n a c u) (hc : c.toInt = 112) (h0 : np.toInt < 5) (hb0 : 0 ≤ np.toInt) (hq : q.toInt = u.toInt + 1) (hb : np'.toInt = np.toInt + 1) (ht : ∀ j : Nat, j < 4 → tf j = zTl 9 j) (e1 : fp1 = va_cpy tf fp (0 : Int32).toNatClampNeg v.toNatClampNeg (4 : Int32).toNatClampNeg) (hv : v.toInt = np.toInt * 4) (hi : r.toInt = 1 → zIe f n 2 4 v.toInt.toNat q.toInt fp1 fp') : zCw f n a hr nb np fr fb fp r hr nb np' fr fb fp' := by
  intro hr1 hz cc hn
  have e := (zpk_is hp (c := 112) (by decide)).mpr hc
  unfold sCv
  rw [if_neg (by omega), if_neg (by omega), if_pos ⟨e, h0⟩, hp.1, ← hq]
  exact ⟨⟨hn.1, hn.2.1, zAt_b e1 hv hb0 ht cDf_t9 (hi hr1) hn.2.2 hb⟩, hz⟩
/-- the class's reader between clauses -/
def zCrV (f : Nat → Int32) (n g a hr nb np : Int32) (fr fb fp : Nat → Int32) : Prop := g.toInt = 1 → zR0 hr.toInt fr ∧ ∃ c : zK3, sCrtV (sB f n.toInt) n.toInt = sCkV (sB f n.toInt) n.toInt (hr.toInt, nb.toInt, np.toInt) (g.toInt, a.toInt) c ∧ zCn fr fb fp nb.toInt np.toInt c
theorem zCrV0 {f : Nat → Int32} {n r u hr nb np : Int32} {fr0 fr1 fb0 fp0 fr fb fp tf : Nat → Int32} (ht : ∀ j : Nat, j < 3 → tf j = zTl 3 j) (e1 : fr1 = va_cpy tf fr0 (0 : Int32).toNatClampNeg (0 : Int32).toNatClampNeg (3 : Int32).toNatClampNeg) (h : zCc f n 0 0 0 0 r u hr nb np) (hw : zCw f n 0 0 0 0 fr1 fb0 fp0 r hr nb np fr fb fp) : zCrV f n r u hr nb np fr fb fp := by
  intro hr1
  have e1 : fr1 = va_cpy tf fr0 0 0 3 := e1
  have d : ∀ j : Nat, j < 3 → (fr1 j).toInt = cDf 0 j := fun j hj => by
    rw [e1, pk_cpy_in (by omega) (by omega), show 0 + (j - 0) = j by omega, ht j hj]
    exact cDf_t3 j hj
  have h1 := h.1
  have h2 := h.2
  have w := hw hr1 (fun _ => d) zC0
  rw [show (0 : Int32).toInt = 0 from by decide] at h1 h2 w
  obtain ⟨w1, w2⟩ := w ⟨fun j hj => zof (d j hj), fun j hj => by omega, fun j hj => by omega⟩
  refine ⟨w2, _, ?_, w1⟩
  unfold sCrtV
  rw [sCoV_eq]
  show sCkV _ _ (sCs 0 0 0 _) (sCc _ _ 0 0 0 _) _ = _
  rw [h2, sCkV_fs h1]
theorem zCrVS {f : Nat → Int32} {n g a hr nb np r u r2 u2 hr2 nb2 np2 : Int32} {fr fb fp fr2 fb2 fp2 : Nat → Int32} (h : zCrV f n g a hr nb np fr fb fp) (hg : g.toInt = 1) (ht : zTk f n a 59 r u) (hr1 : ¬ r.toInt = 0) (hc : zCc f n u hr nb np r2 u2 hr2 nb2 np2) (hw : zCw f n u hr nb np fr fb fp r2 hr2 nb2 np2 fr2 fb2 fp2) : zCrV f n r2 u2 hr2 nb2 np2 fr2 fb2 fp2 := by
  intro hr3
  obtain ⟨z, c, e, hn⟩ := h hg
  obtain ⟨w1, w2⟩ := hw hr3 z c hn
  refine ⟨w2, _, ?_, w1⟩
  rcases ht with q | q
  · rw [e]
    unfold sCkV
    rw [if_pos (show (g.toInt, a.toInt).1 = 1 from hg)]
    show (if sk (sB f n.toInt) n.toInt a.toInt < n.toInt ∧ sB f n.toInt (sk (sB f n.toInt) n.toInt a.toInt) = 59 then sCoV (sB f n.toInt) n.toInt (hr.toInt, nb.toInt, np.toInt) (sk (sB f n.toInt) n.toInt a.toInt + 1) c else c) = _
    rw [if_pos ⟨by omega, q.2.2.1.trans (by decide)⟩, ← q.2.1, sCoV_eq]
    show sCkV _ _ (sCs hr.toInt nb.toInt np.toInt _) (sCc _ _ hr.toInt nb.toInt np.toInt _) _ = _
    rw [hc.2, sCkV_fs hc.1]
    rfl
  · exact absurd q.1 hr1
theorem zCrVE {f : Nat → Int32} {n g a hr nb np : Int32} {fr fb fp : Nat → Int32} (h : zCrV f n g a hr nb np fr fb fp) (hg : g.toInt = 1) (he : n.toInt ≤ a.toInt ∨ ¬ sB f n.toInt (sk (sB f n.toInt) n.toInt a.toInt) = 59) : zCn fr fb fp nb.toInt np.toInt (sCrtV (sB f n.toInt) n.toInt) := by
  obtain ⟨z, c, e, hn⟩ := h hg
  have k := sk_ge (sB f n.toInt) n.toInt a.toInt
  rw [e]
  unfold sCkV
  rw [if_pos (show (g.toInt, a.toInt).1 = 1 from hg)]
  show zCn fr fb fp nb.toInt np.toInt (if sk (sB f n.toInt) n.toInt a.toInt < n.toInt ∧ sB f n.toInt (sk (sB f n.toInt) n.toInt a.toInt) = 59 then _ else c)
  rw [if_neg (fun z => he.elim (fun y => by have := z.1; omega) (fun y => y z.2))]
  exact hn
