def eRc (t : Int) : Int := if t = 1 then 0 else if t = 2 then 1 else if t = 43 then 2 else if t = 45 then 3 else if t = 42 then 4 else if t = 47 then 5 else if t = 61 then 6 else if t = 60 then 7 else if t = 62 then 8 else if t = 33 then 9 else if t = 38 then 10 else 11
def zEr (fC fV : Nat → Int32) (o : Nat) (d : Int) (l : List (Int × Int)) (fC' fV' : Nat → Int32) (d' : Int) : Prop := d' = d + (l.length : Int) ∧ (∀ j : Nat, (j : Int) < (o : Int) + d → fC' j = fC j ∧ fV' j = fV j) ∧ ∀ (i : Nat) (t : Int × Int), l[i]? = some t → (fC' (o + d.toNat + i)).toInt = eRc t.1 ∧ ((t.1 = 1 ∨ t.1 = 2) → (fV' (o + d.toNat + i)).toInt = t.2)
theorem zEr_nil {f g : Nat → Int32} {o : Nat} {d : Int} : zEr f g o d [] f g d := ⟨by simp, fun _ _ => ⟨rfl, rfl⟩, fun i t h => by simp at h⟩
theorem zEr_app {f g f1 g1 f2 g2 : Nat → Int32} {o : Nat} {d d1 d2 : Int} {l1 l2 : List (Int × Int)} (h1 : zEr f g o d l1 f1 g1 d1) (h2 : zEr f1 g1 o d1 l2 f2 g2 d2) (h0 : 0 ≤ d) : zEr f g o d (l1 ++ l2) f2 g2 d2 := by
  obtain ⟨a1, b1, c1⟩ := h1
  obtain ⟨a2, b2, c2⟩ := h2
  refine ⟨by rw [List.length_append]; omega, fun j hj => ⟨by rw [(b2 j (by omega)).1, (b1 j hj).1], by rw [(b2 j (by omega)).2, (b1 j hj).2]⟩, fun i t ht => ?_⟩
  by_cases q : i < l1.length
  · rw [List.getElem?_append_left q] at ht
    rw [(b2 (o + d.toNat + i) (by omega)).1, (b2 (o + d.toNat + i) (by omega)).2]
    exact c1 i t ht
  · rw [List.getElem?_append_right (by omega)] at ht
    have := c2 _ t ht
    rw [show o + d1.toNat + (i - l1.length) = o + d.toNat + i by omega] at this
    exact this
theorem zEr_one {f g f' g' : Nat → Int32} {o : Nat} {d d' : Int} {i j x y : Int32} {t : Int × Int} (e1 : f' = upd f i.toNatClampNeg x) (e2 : g' = upd g j.toNatClampNeg y) (hi : i.toInt = (o : Int) + d) (hj : j.toInt = (o : Int) + d) (hx : x.toInt = eRc t.1) (hy : (t.1 = 1 ∨ t.1 = 2) → y.toInt = t.2) (hd : d' = d + 1) (h0 : 0 ≤ d) : zEr f g o d [t] f' g' d' := by
  have ii : i.toNatClampNeg = i.toInt.toNat := rfl
  have jj : j.toNatClampNeg = j.toInt.toNat := rfl
  refine ⟨by rw [hd]; rfl, fun k hk => ⟨by rw [e1, pk_un (by omega)], by rw [e2, pk_un (by omega)]⟩, fun k u hu => ?_⟩
  cases k with
  | zero =>
    have hu : t = u := by simpa using hu
    rw [← hu, Nat.add_zero, e1, e2, show o + d.toNat = i.toNatClampNeg by omega, pk_us, show i.toNatClampNeg = j.toNatClampNeg by omega, pk_us]
    exact ⟨hx, hy⟩
  | succ k => simp at hu
theorem fra_b {f fC fV fC' fV' : Nat → Int32} {n a c u q : Int32} {o : Nat} {d d' : Int} {K : Nat} (h : zLk f n a c u) (hc : c.toInt = 91) (hq : q.toInt = u.toInt + 1) (he : zEr fC fV o d (eSum (sB f n.toInt) n.toInt K q.toInt) fC' fV' d') : zEr fC fV o d (eAtm (sB f n.toInt) n.toInt (K + 1) a.toInt) fC' fV' d' := by
  have e : eAtm (sB f n.toInt) n.toInt (K + 1) a.toInt = eSum (sB f n.toInt) n.toInt K q.toInt := by
    show eAt _ _ false (eSum _ _ K) _ = _
    unfold eAt
    rw [h.1, ← h.2, if_pos hc, if_neg (by decide), ← hq]
  rw [e]
  exact he
theorem fra_l {f fC fV fC' fV' : Nat → Int32} {n a c u i : Int32} {o : Nat} {d d' : Int} {K : Nat} (h : zLk f n a c u) (hl : c.toInt = 102 ∨ c.toInt = 119 ∨ c.toInt = 121 ∨ c.toInt = 115 ∨ c.toInt = 97 ∨ c.toInt = 109) (hv : i.toInt = eLt c.toInt) (he : zEr fC fV o d [(2, i.toInt)] fC' fV' d') : zEr fC fV o d (eAtm (sB f n.toInt) n.toInt K a.toInt) fC' fV' d' := by
  have e : eAtm (sB f n.toInt) n.toInt K a.toInt = [(2, i.toInt)] := by
    rw [eAtm_let (by rw [h.1, ← h.2]; omega) (by rw [h.1, ← h.2]; exact hl), h.1, ← h.2, hv]
  rw [e]
  exact he
theorem fra_n {f fC fV fC' fV' : Nat → Int32} {n a c u r : Int32} {o : Nat} {d d' : Int} {K : Nat} (h : zLk f n a c u) (hd : 48 ≤ c.toInt ∧ c.toInt ≤ 57) (hv : r.toInt = sNv (sB f n.toInt) u.toInt) (he : zEr fC fV o d [(1, r.toInt)] fC' fV' d') : zEr fC fV o d (eAtm (sB f n.toInt) n.toInt K a.toInt) fC' fV' d' := by
  have e : eAtm (sB f n.toInt) n.toInt K a.toInt = [(1, r.toInt)] := by
    rw [eAtm_num (by rw [h.1, ← h.2]; omega) (by rw [h.1, ← h.2]; omega), h.1, hv]
  rw [e]
  exact he
def zTe (f : Nat → Int32) (n : Int32) (op : Int → Bool) (F : Int → Int × Int) (E : Int → List (Int × Int)) (T : List (Int × Int)) (fC fV : Nat → Int32) (o : Nat) (d : Int) (fC1 fV1 : Nat → Int32) (d1 : Int) (wr p : Int32) : Prop := wr.toInt = -1 → ∃ pre : List (Int × Int), zEr fC fV o d pre fC1 fV1 d1 ∧ T = pre ++ eL (sB f n.toInt) n.toInt op F E p.toInt
theorem zTe_w {f fC fV fC1 fV1 : Nat → Int32} {n wr p : Int32} {o : Nat} {d d1 : Int} {op : Int → Bool} {F : Int → Int × Int} {E : Int → List (Int × Int)} {T : List (Int × Int)} (hw : ¬ wr.toInt = -1) : zTe f n op F E T fC fV o d fC1 fV1 d1 wr p := fun z => absurd z hw
theorem zTe_b {f fC fV fC1 fV1 : Nat → Int32} {n wr u c w : Int32} {o : Nat} {d d1 : Int} {op : Int → Bool} {F : Int → Int × Int} {E : Int → List (Int × Int)} {T L : List (Int × Int)} {x : Int × Int} (hT : T = L ++ eL (sB f n.toInt) n.toInt op F E (sk (sB f n.toInt) n.toInt x.2)) (hF : zW x wr u) (he : wr.toInt = -1 → zEr fC fV o d L fC1 fV1 d1) (hp : zLk f n u c w) : zTe f n op F E T fC fV o d fC1 fV1 d1 wr w := by
  intro hw
  refine ⟨L, he hw, ?_⟩
  rw [hT, zW_1 hF hw]
  show _ ++ eL _ _ _ _ _ (sk (sB f n.toInt) n.toInt u.toInt) = _
  rw [hp.1]
theorem zTe_go {f fC fV fC1 fV1 fC2 fV2 fC3 fV3 : Nat → Int32} {n c q wr2 u : Int32} {o : Nat} {d d1 d2 d3 p : Int} {op : Int → Bool} {F : Int → Int × Int} {E : Int → List (Int × Int)} {T pre : List (Int × Int)} (e1 : zEr fC fV o d pre fC1 fV1 d1) (e2 : T = pre ++ eL (sB f n.toInt) n.toInt op F E p) (hq : q.toInt = p + 1) (hc : sB f n.toInt p = c.toInt) (hn : p < n.toInt) (ho : op c.toInt = true) (hF : zW (F q.toInt) wr2 u) (hm : ∀ a, (F a).1 = 1 → a < (F a).2) (hw2 : wr2.toInt = -1) (he : zEr fC1 fV1 o d1 (E q.toInt) fC2 fV2 d2) (hb : zEr fC2 fV2 o d2 [(c.toInt, 0)] fC3 fV3 d3) (h0 : 0 ≤ d) (h01 : 0 ≤ d1) : ∃ pre : List (Int × Int), zEr fC fV o d pre fC3 fV3 d3 ∧ T = pre ++ eL (sB f n.toInt) n.toInt op F E (sk (sB f n.toInt) n.toInt u.toInt) := by
  have y := zW_1 hF hw2
  have m := hm q.toInt (by rw [y])
  rw [y] at m
  have m : q.toInt < u.toInt := m
  have k := sk_ge (sB f n.toInt) n.toInt u.toInt
  refine ⟨pre ++ (E q.toInt ++ [(c.toInt, 0)]), zEr_app e1 (zEr_app he hb h01) h0, ?_⟩
  rw [e2, eL_go hn (by rw [hc]; exact ho) (by rw [← hq, y]) (by rw [← hq, y]; show _ < sk (sB f n.toInt) n.toInt u.toInt; omega), hc, ← hq, y]
  simp only [List.append_assoc, List.cons_append, List.nil_append]
theorem zTe_s {f fC fV fC1 fV1 fC2 fV2 fC3 fV3 : Nat → Int32} {n wr p c q wr2 u c2 w2 : Int32} {o : Nat} {d d1 d2 d3 : Int} {op : Int → Bool} {F : Int → Int × Int} {E : Int → List (Int × Int)} {T : List (Int × Int)} {X : Int × Int} (h : zTe f n op F E T fC fV o d fC1 fV1 d1 wr p) (hz : zLp f n X op F wr p c) (ho : op c.toInt = true) (h1 : op (-1) = false) (hq : q.toInt = p.toInt + 1) (hF : zW (F q.toInt) wr2 u) (hm : ∀ a, (F a).1 = 1 → a < (F a).2) (he : wr2.toInt = -1 → zEr fC1 fV1 o d1 (E q.toInt) fC2 fV2 d2) (hb : zEr fC2 fV2 o d2 [(c.toInt, 0)] fC3 fV3 d3) (h0 : 0 ≤ d) (h01 : 0 ≤ d1) (hp : zLk f n u c2 w2) : zTe f n op F E T fC fV o d fC3 fV3 d3 wr2 w2 := by
  intro hw2
  rcases hz with z | z
  · obtain ⟨pre, e1, e2⟩ := h z.2.1
    have l := sB_lt (f := f) (n := n.toInt) (a := p.toInt) (fun y => by rw [z.2.2, y, h1] at ho; exact absurd ho (by decide))
    rw [← hp.1]
    exact zTe_go e1 e2 hq z.2.2.symm l.2 ho hF hm hw2 (he hw2) hb h0 h01
  · rw [z.2.2, h1] at ho
    exact absurd ho (by decide)
theorem zTe_e {f fC fV fC1 fV1 : Nat → Int32} {n wr p c : Int32} {o : Nat} {d d1 : Int} {op : Int → Bool} {F : Int → Int × Int} {E : Int → List (Int × Int)} {T : List (Int × Int)} {X : Int × Int} (h : zTe f n op F E T fC fV o d fC1 fV1 d1 wr p) (hz : zLp f n X op F wr p c) (hc : ¬ op c.toInt = true) : wr.toInt = -1 → zEr fC fV o d T fC1 fV1 d1 := by
  intro hw
  obtain ⟨pre, e1, e2⟩ := h hw
  rcases hz with z | z
  · rw [e2, eL_end (fun y => hc (by rw [z.2.2]; exact y.2)), List.append_nil]
    exact e1
  · omega
def zTg (f : Nat → Int32) (n : Int32) (op : Int → Bool) (F : Int → Int × Int) (E : Int → List (Int × Int)) (T : List (Int × Int)) (fC fV : Nat → Int32) (o : Nat) (d : Int) (fC1 fV1 : Nat → Int32) (d1 : Int) (wr p : Int32) : Prop := wr.toInt = -1 → ∃ pre : List (Int × Int), zEr fC fV o d pre fC1 fV1 d1 ∧ T = pre ++ eL (sB f n.toInt) n.toInt op F E (sk (sB f n.toInt) n.toInt p.toInt)
theorem zTg_0 {f fC fV : Nat → Int32} {n wr p : Int32} {o : Nat} {d : Int} {op : Int → Bool} {F : Int → Int × Int} {E : Int → List (Int × Int)} : zTg f n op F E (eL (sB f n.toInt) n.toInt op F E (sk (sB f n.toInt) n.toInt p.toInt)) fC fV o d fC fV d wr p := fun _ => ⟨[], zEr_nil, rfl⟩
theorem zTg_s {f fC fV fC1 fV1 fC2 fV2 fC3 fV3 : Nat → Int32} {n wr p v u q wr2 u2 : Int32} {o : Nat} {d d1 d2 d3 : Int} {op : Int → Bool} {F : Int → Int × Int} {E : Int → List (Int × Int)} {T : List (Int × Int)} (h : zTg f n op F E T fC fV o d fC1 fV1 d1 wr p) (hw : wr.toInt = -1) (hk : zLk f n p v u) (ho : op v.toInt = true) (h1 : op (-1) = false) (hq : q.toInt = u.toInt + 1) (hF : zW (F q.toInt) wr2 u2) (hm : ∀ a, (F a).1 = 1 → a < (F a).2) (he : wr2.toInt = -1 → zEr fC1 fV1 o d1 (E q.toInt) fC2 fV2 d2) (hb : zEr fC2 fV2 o d2 [(v.toInt, 0)] fC3 fV3 d3) (h0 : 0 ≤ d) (h01 : 0 ≤ d1) : zTg f n op F E T fC fV o d fC3 fV3 d3 wr2 u2 := by
  intro hw2
  obtain ⟨pre, e1, e2⟩ := h hw
  rw [hk.1] at e2
  have l := sB_lt (f := f) (n := n.toInt) (a := u.toInt) (fun y => by rw [hk.2, y, h1] at ho; exact absurd ho (by decide))
  exact zTe_go e1 e2 hq hk.2.symm l.2 ho hF hm hw2 (he hw2) hb h0 h01
theorem zTg_e {f fC fV fC1 fV1 : Nat → Int32} {n wr p v u : Int32} {o : Nat} {d d1 : Int} {op : Int → Bool} {F : Int → Int × Int} {E : Int → List (Int × Int)} {T : List (Int × Int)} (h : zTg f n op F E T fC fV o d fC1 fV1 d1 wr p) (hk : zLk f n p v u) (hc : ¬ op v.toInt = true) : wr.toInt = -1 → zEr fC fV o d T fC1 fV1 d1 := by
  intro hw
  obtain ⟨pre, e1, e2⟩ := h hw
  rw [e2, hk.1, eL_end (fun y => hc (by rw [hk.2]; exact y.2)), List.append_nil]
  exact e1
theorem eSum_two {g : Int → Int} {n : Int} {k : Nat} {a : Int} (h : (sSum g n k a).1 = 1) : eSum g n k a = eTm g n oP (sTm g n oM (sAtm g n k)) (eTm g n oM (sAtm g n k) (eAtm g n k)) a := by
  have hm := sAtm_mono g n k
  rw [sSum_eq] at h
  unfold sTm at h
  by_cases q : (sAtm g n k a).1 = 1
  · rw [if_pos q] at h
    have h2 := h
    rw [sLp_two oA_two hm _ _ (Nat.le_refl _) (sk_id g n _)] at h2
    by_cases t : (sLp g n oM (sAtm g n k) (sk g n (sAtm g n k a).2)).1 = 1
    · have e6 := (sLp_ge (op := oM) hm _ _ (Nat.le_refl _) (sk_id g n (sAtm g n k a).2) t).2
      rw [eSum_eq, eS1_two oA_two (fun c hc => by rw [oM_iff] at hc; rw [oP_iff]; omega) (fun c hc => by rw [oP_iff] at hc; omega) hm _ _ 0 (Nat.le_refl _) (sk_id g n _) h]
      unfold eTm
      have et : sTm g n oM (sAtm g n k) a = sLp g n oM (sAtm g n k) (sk g n (sAtm g n k a).2) := by unfold sTm; rw [if_pos q]
      rw [et, e6]
      show _ ++ (_ ++ ((if (0 : Int) = 0 then [] else [((0 : Int), (0 : Int))]) ++ _)) = _
      rw [if_pos rfl, List.nil_append, List.append_assoc]
    · rw [if_neg t] at h2
      exact absurd h2 zne1
  · rw [if_neg q] at h
    exact absurd h zne1
theorem eCon_two {g : Int → Int} {n : Int} {U : Int → Int × Int} {E : Int → List (Int × Int)} (hm : ∀ a, (U a).1 = 1 → a < (U a).2) {p : Int} (hp : sk g n p = p) (h : (sLp g n oC U p).1 = 1) : eS1 g n oC oD U E 0 p = eL g n oD U E p ++ eL g n oO (sTm g n oD U) (eTm g n oD U E) (sLp g n oD U p).2 := by
  rw [eS1_two oC_two (fun c hc => by rw [oD_iff] at hc; rw [oO_iff]; omega) (fun c hc => by rw [oO_iff] at hc; omega) hm _ _ 0 (Nat.le_refl _) hp h]
  show _ ++ ((if (0 : Int) = 0 then [] else [((0 : Int), (0 : Int))]) ++ _) = _
  rw [if_pos rfl, List.nil_append]
theorem erCmp {f fC fV fC1 fV1 fC2 fV2 : Nat → Int32} {n a c u q : Int32} {o : Nat} {d d1 d2 : Int} {E : Int → List (Int × Int)} (h : zLk f n a c u) (hq : q.toInt = u.toInt + 1) (he : zEr fC fV o d (E q.toInt) fC1 fV1 d1) (hb : zEr fC1 fV1 o d1 [(c.toInt, 0)] fC2 fV2 d2) (h0 : 0 ≤ d) : zEr fC fV o d (eCmp (sB f n.toInt) n.toInt E a.toInt) fC2 fV2 d2 := by
  unfold eCmp
  rw [h.1, ← h.2, ← hq]
  exact zEr_app he hb h0
theorem erNot {f fC fV fC1 fV1 fC2 fV2 : Nat → Int32} {n a c u q : Int32} {o : Nat} {d d1 d2 : Int} {K : Nat} (h : zLk f n a c u) (hc : c.toInt = 33) (hq : q.toInt = u.toInt + 1) (he : zEr fC fV o d (eUn (sB f n.toInt) n.toInt K q.toInt) fC1 fV1 d1) (hb : zEr fC1 fV1 o d1 [(33, 0)] fC2 fV2 d2) (h0 : 0 ≤ d) : zEr fC fV o d (eUn (sB f n.toInt) n.toInt (K + 1) a.toInt) fC2 fV2 d2 := by
  have e : eUn (sB f n.toInt) n.toInt (K + 1) a.toInt = eUn (sB f n.toInt) n.toInt K q.toInt ++ [(33, 0)] := by
    show eUn1 _ _ _ _ _ _ _ = _
    unfold eUn1
    rw [h.1, ← h.2, if_pos hc, ← hq]
  rw [e]
  exact zEr_app he hb h0
theorem erPar {f fC fV fC1 fV1 : Nat → Int32} {n a c u q : Int32} {o : Nat} {d d1 : Int} {K : Nat} (h : zLk f n a c u) (hc : c.toInt = 40) (hq : q.toInt = u.toInt + 1) (he : zEr fC fV o d (eCon (sB f n.toInt) n.toInt K q.toInt) fC1 fV1 d1) : zEr fC fV o d (eUn (sB f n.toInt) n.toInt (K + 1) a.toInt) fC1 fV1 d1 := by
  have e : eUn (sB f n.toInt) n.toInt (K + 1) a.toInt = eCon (sB f n.toInt) n.toInt K q.toInt := by
    show eUn1 _ _ _ _ _ _ _ = _
    unfold eUn1 eCon
    rw [h.1, ← h.2, if_neg (by omega), if_pos hc, ← hq]
  rw [e]
  exact he
theorem erSum {f fC fV fC1 fV1 fC2 fV2 : Nat → Int32} {n a c u wr w : Int32} {o : Nat} {d d1 d2 : Int} {K : Nat} (h : zLk f n a c u) (h1 : ¬ c.toInt = 33) (h2 : ¬ c.toInt = 40) (hs : zW (sSum (sB f n.toInt) n.toInt K u.toInt) wr w) (hw : wr.toInt = -1) (he : zEr fC fV o d (eSum (sB f n.toInt) n.toInt K u.toInt) fC1 fV1 d1) (hb : zEr fC1 fV1 o d1 (eCmp (sB f n.toInt) n.toInt (eSum (sB f n.toInt) n.toInt K) w.toInt) fC2 fV2 d2) (h0 : 0 ≤ d) : zEr fC fV o d (eUn (sB f n.toInt) n.toInt K a.toInt) fC2 fV2 d2 := by
  have e : eUn (sB f n.toInt) n.toInt K a.toInt = eSum (sB f n.toInt) n.toInt K u.toInt ++ eCmp (sB f n.toInt) n.toInt (eSum (sB f n.toInt) n.toInt K) w.toInt := by
    rw [eUn_sum (by rw [h.1, ← h.2]; exact h1) (by rw [h.1, ← h.2]; exact h2), ← sSum_sk, ← eSum_sk, h.1, zW_1 hs hw]
  rw [e]
  exact zEr_app he hb h0
theorem erTwo {f fC fV fC1 fV1 fC2 fV2 fC3 fV3 : Nat → Int32} {n wr u wr2 u2 wr3 u3 : Int32} {o : Nat} {d d1 d2 d3 : Int} {U : Int → Int × Int} {E : Int → List (Int × Int)} {T L : List (Int × Int)} {x : Int × Int} (hm : ∀ a, (U a).1 = 1 → a < (U a).2) (hT : T = L ++ eS1 (sB f n.toInt) n.toInt oC oD U E 0 (sk (sB f n.toInt) n.toInt x.2)) (hx : zW x wr u) (h2 : zW (sGl (sB f n.toInt) n.toInt oD U x) wr2 u2) (h3 : zW (sGl (sB f n.toInt) n.toInt oO (sTm (sB f n.toInt) n.toInt oD U) (sGl (sB f n.toInt) n.toInt oD U x)) wr3 u3) (hw : wr3.toInt = -1) (k2 : wr3.toInt = -1 → wr2.toInt = -1) (k1 : wr2.toInt = -1 → wr.toInt = -1) (e1 : wr.toInt = -1 → zEr fC fV o d L fC1 fV1 d1) (e2 : wr2.toInt = -1 → zEr fC1 fV1 o d1 (eL (sB f n.toInt) n.toInt oD U E (sk (sB f n.toInt) n.toInt u.toInt)) fC2 fV2 d2) (e3 : wr3.toInt = -1 → zEr fC2 fV2 o d2 (eL (sB f n.toInt) n.toInt oO (sTm (sB f n.toInt) n.toInt oD U) (eTm (sB f n.toInt) n.toInt oD U E) (sk (sB f n.toInt) n.toInt u2.toInt)) fC3 fV3 d3) (h0 : 0 ≤ d) (h01 : 0 ≤ d1) : zEr fC fV o d T fC3 fV3 d3 := by
  have w2 := k2 hw
  have w1 := k1 w2
  have y1 := zW_1 hx w1
  have y2 := zW_1 h2 w2
  have y3 := zW_1 h3 hw
  rw [y2] at y3
  rw [y1] at y2
  have g2 : sLp (sB f n.toInt) n.toInt oD U (sk (sB f n.toInt) n.toInt u.toInt) = (1, u2.toInt) := by
    unfold sGl at y2
    rw [if_pos rfl] at y2
    exact y2
  have g3 : sLp (sB f n.toInt) n.toInt oO (sTm (sB f n.toInt) n.toInt oD U) (sk (sB f n.toInt) n.toInt u2.toInt) = (1, u3.toInt) := by
    unfold sGl at y3
    rw [if_pos rfl] at y3
    exact y3
  have k6 := (sLp_ge (op := oD) hm _ _ (Nat.le_refl _) (sk_id (sB f n.toInt) n.toInt u.toInt) (by rw [g2])).2
  rw [g2] at k6
  have k6 : sk (sB f n.toInt) n.toInt u2.toInt = u2.toInt := k6
  have g : (sLp (sB f n.toInt) n.toInt oC U (sk (sB f n.toInt) n.toInt u.toInt)).1 = 1 := by
    rw [sLp_two oC_two hm _ _ (Nat.le_refl _) (sk_id _ _ _), g2, if_pos rfl]
    show (sLp (sB f n.toInt) n.toInt oO (sTm (sB f n.toInt) n.toInt oD U) u2.toInt).1 = 1
    rw [k6] at g3
    rw [g3]
  have e : T = L ++ (eL (sB f n.toInt) n.toInt oD U E (sk (sB f n.toInt) n.toInt u.toInt) ++ eL (sB f n.toInt) n.toInt oO (sTm (sB f n.toInt) n.toInt oD U) (eTm (sB f n.toInt) n.toInt oD U E) (sk (sB f n.toInt) n.toInt u2.toInt)) := by
    rw [hT, y1]
    show L ++ eS1 _ _ _ _ _ _ 0 (sk (sB f n.toInt) n.toInt u.toInt) = _
    rw [eCon_two hm (sk_id _ _ _) g, g2, k6]
  rw [e]
  exact zEr_app (e1 w1) (zEr_app (e2 w2) (e3 hw) h01) h0
theorem zfd1 {f g : Nat → Int32} {i x : Int32} {y : Int} (e : g = upd f i.toNatClampNeg x) (hx : x.toInt = y) : (g i.toInt.toNat).toInt = y := by
  rw [e]
  show (upd f i.toNatClampNeg x i.toNatClampNeg).toInt = y
  rw [pk_us]
  exact hx
theorem zVdR {f : Nat → Int32} {n a h v h' v' p x : Int32} (hv : zVd f n a h v) (h0 : 0 ≤ h.toInt) (hp : p.toInt = a.toInt + h.toInt) (F : x.toInt = sB f n.toInt p.toInt) (hh : h'.toInt = h.toInt + 1) (hv' : v'.toInt = 10 * v.toInt + x.toInt - 48) : zVd f n a h' v' := by
  unfold zVd at hv ⊢
  rw [show h'.toInt.toNat = h.toInt.toNat + 1 by omega]
  unfold sDv
  rw [← hv, hv', show a.toInt + ((h.toInt.toNat : Nat) : Int) = p.toInt by omega, F]
  omega
theorem zGlk {f : Nat → Int32} {n wr u wr2 u2 : Int32} {op : Int → Bool} {F : Int → Int × Int} {x : Int × Int} (hx : zW x wr u) (h : zW (sGl (sB f n.toInt) n.toInt op F x) wr2 u2) (hw : wr2.toInt = -1) : wr.toInt = -1 := by
  by_cases q : wr.toInt = -1
  · exact q
  · obtain ⟨y, h0⟩ := zW_0 hx q
    have z := zW_1 h hw
    rw [y] at z
    unfold sGl at z
    rw [if_neg zne1] at z
    exact absurd (show (0 : Int) = 1 from congrArg Prod.fst z) (by decide)
theorem erTm {f fC fV fC1 fV1 fC2 fV2 : Nat → Int32} {n q wr u wr2 u2 : Int32} {o : Nat} {d d1 d2 : Int} {op : Int → Bool} {U : Int → Int × Int} {E : Int → List (Int × Int)} (hx : zW (U q.toInt) wr u) (h2 : zW (sGl (sB f n.toInt) n.toInt op U (U q.toInt)) wr2 u2) (e1 : wr.toInt = -1 → zEr fC fV o d (E q.toInt) fC1 fV1 d1) (e2 : wr2.toInt = -1 → zEr fC1 fV1 o d1 (eL (sB f n.toInt) n.toInt op U E (sk (sB f n.toInt) n.toInt u.toInt)) fC2 fV2 d2) (h0 : 0 ≤ d) : wr2.toInt = -1 → zEr fC fV o d (eTm (sB f n.toInt) n.toInt op U E q.toInt) fC2 fV2 d2 := by
  intro hw
  have w1 := zGlk hx h2 hw
  unfold eTm
  rw [zW_1 hx w1]
  exact zEr_app (e1 w1) (e2 hw) h0
