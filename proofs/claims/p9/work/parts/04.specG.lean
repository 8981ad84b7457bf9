def eTt (g : Int → Int) (n : Int) (a : Int) : List (Int × Int) := if eB2 g n a = true then eT2 g n a else []
theorem eB2_tR {f : Nat → Int32} {n a c u : Int32} (h : zLk f n a c u) (hc : c.toInt = 33 ∨ c.toInt = 40) : eB2 (sB f n.toInt) n.toInt a.toInt = true := by
  unfold eB2
  rw [decide_eq_true_iff, h.1, ← h.2]
  omega
theorem eB2_sR {f : Nat → Int32} {n a c u wr w c2 w2 : Int32} (h : zLk f n a c u) (h1 : ¬ c.toInt = 33) (h2 : ¬ c.toInt = 40) (hs : zW (sSum (sB f n.toInt) n.toInt 6 u.toInt) wr w) (hw : wr.toInt = -1) (hp : zLk f n w c2 w2) : eB2 (sB f n.toInt) n.toInt a.toInt = true ↔ (c2.toInt = 61 ∨ c2.toInt = 60 ∨ c2.toInt = 62) := by
  have e : (sSum (sB f n.toInt) n.toInt 6 a.toInt).2 = w.toInt := by rw [← sSum_sk, h.1, zW_1 hs hw]
  unfold eB2
  rw [decide_eq_true_iff, e, h.1, ← h.2, hp.1, ← hp.2]
  omega
theorem erT {f fC fV fC1 fV1 fC2 fV2 : Nat → Int32} {n a c u wr w c2 w2 q : Int32} {o : Nat} {d d1 d2 : Int} (h : zLk f n a c u) (hc : c.toInt = 33 ∨ c.toInt = 40) (hs : zW (sCon (sB f n.toInt) n.toInt 6 u.toInt) wr w) (hw : wr.toInt = -1) (e1 : zEr fC fV o d (eCon (sB f n.toInt) n.toInt 6 u.toInt) fC1 fV1 d1) (hp : zLk f n w c2 w2) (hq : q.toInt = w2.toInt + 1) (e2 : zEr fC1 fV1 o d1 (eSum (sB f n.toInt) n.toInt 6 q.toInt) fC2 fV2 d2) (h0 : 0 ≤ d) : zEr fC fV o d (eTt (sB f n.toInt) n.toInt a.toInt ++ eS2 (sB f n.toInt) n.toInt a.toInt) fC2 fV2 d2 ∧ d1 = d + ((eTt (sB f n.toInt) n.toInt a.toInt).length : Int) := by
  have g1 : sB f n.toInt (sk (sB f n.toInt) n.toInt a.toInt) = 33 ∨ sB f n.toInt (sk (sB f n.toInt) n.toInt a.toInt) = 40 := by rw [h.1, ← h.2]; exact hc
  have g3 : sCon (sB f n.toInt) n.toInt 6 a.toInt = (1, w.toInt) := by rw [← sCon_sk, h.1, zW_1 hs hw]
  have et : eTt (sB f n.toInt) n.toInt a.toInt = eCon (sB f n.toInt) n.toInt 6 u.toInt := by
    unfold eTt eT2
    rw [if_pos (eB2_tR h hc), if_pos g1, ← eCon_sk, h.1]
  have es : eS2 (sB f n.toInt) n.toInt a.toInt = eSum (sB f n.toInt) n.toInt 6 q.toInt := by
    unfold eS2
    rw [if_pos g1, g3]
    show eSum _ _ 6 (sk (sB f n.toInt) n.toInt w.toInt + 1) = _
    rw [hp.1, ← hq]
  rw [et, es]
  exact ⟨zEr_app e1 e2 h0, e1.1⟩
theorem erC {f fC fV fC0 fV0 fC1 fV1 fC2 fV2 : Nat → Int32} {n a c u wr w c2 w2 wr5 w5 c6 w6 q : Int32} {o : Nat} {d d0 d1 d2 : Int} (h : zLk f n a c u) (h33 : ¬ c.toInt = 33) (h40 : ¬ c.toInt = 40) (hs : zW (sSum (sB f n.toInt) n.toInt 6 u.toInt) wr w) (hw : wr.toInt = -1) (hp : zLk f n w c2 w2) (hc2 : c2.toInt = 61 ∨ c2.toInt = 60 ∨ c2.toInt = 62) (hg : zW (sGo (sB f n.toInt) n.toInt w2.toInt) wr5 w5) (hw5 : wr5.toInt = -1) (e0 : zEr fC fV o d (eSum (sB f n.toInt) n.toInt 6 u.toInt) fC0 fV0 d0) (e1 : zEr fC0 fV0 o d0 (eGo (sB f n.toInt) n.toInt w2.toInt) fC1 fV1 d1) (hp6 : zLk f n w5 c6 w6) (hq : q.toInt = w6.toInt + 1) (e2 : zEr fC1 fV1 o d1 (eSum (sB f n.toInt) n.toInt 6 q.toInt) fC2 fV2 d2) (h0 : 0 ≤ d) : zEr fC fV o d (eTt (sB f n.toInt) n.toInt a.toInt ++ eS2 (sB f n.toInt) n.toInt a.toInt) fC2 fV2 d2 ∧ d1 = d + ((eTt (sB f n.toInt) n.toInt a.toInt).length : Int) := by
  have g1 : ¬ (sB f n.toInt (sk (sB f n.toInt) n.toInt a.toInt) = 33 ∨ sB f n.toInt (sk (sB f n.toInt) n.toInt a.toInt) = 40) := by rw [h.1, ← h.2]; omega
  have g3 : sSum (sB f n.toInt) n.toInt 6 a.toInt = (1, w.toInt) := by rw [← sSum_sk, h.1, zW_1 hs hw]
  have g4 : sGo (sB f n.toInt) n.toInt w.toInt = (1, w5.toInt) := by
    have y : sGo (sB f n.toInt) n.toInt w2.toInt = sGo (sB f n.toInt) n.toInt w.toInt := by
      rw [← hp.1]
      unfold sGo
      have e : sCmp (sB f n.toInt) n.toInt (sSum (sB f n.toInt) n.toInt 6) (sk (sB f n.toInt) n.toInt w.toInt) = sCmp (sB f n.toInt) n.toInt (sSum (sB f n.toInt) n.toInt 6) w.toInt := by
        unfold sCmp
        rw [sk_id]
      rw [e]
    rw [← y, zW_1 hg hw5]
  have g5 := (eB2_sR h h33 h40 hs hw hp).mpr hc2
  have et : eTt (sB f n.toInt) n.toInt a.toInt = eSum (sB f n.toInt) n.toInt 6 u.toInt ++ eGo (sB f n.toInt) n.toInt w2.toInt := by
    unfold eTt eT2
    rw [if_pos g5, if_neg g1, g3, ← eSum_sk, h.1]
    show _ ++ eGo _ _ w.toInt = _
    rw [← eGo_sk, hp.1]
  have es : eS2 (sB f n.toInt) n.toInt a.toInt = eSum (sB f n.toInt) n.toInt 6 q.toInt := by
    unfold eS2
    rw [if_neg g1, if_pos g5, g3]
    show eSum _ _ 6 (sk (sB f n.toInt) n.toInt (sGo (sB f n.toInt) n.toInt w.toInt).2 + 1) = _
    rw [g4]
    show eSum _ _ 6 (sk (sB f n.toInt) n.toInt w5.toInt + 1) = _
    rw [hp6.1, ← hq]
  rw [et, es]
  have e3 := zEr_app e0 e1 h0
  exact ⟨zEr_app e3 e2 h0, e3.1⟩
theorem erS {f fC fV fC2 fV2 : Nat → Int32} {n a c u wr w c2 w2 : Int32} {o : Nat} {d d2 : Int} (h : zLk f n a c u) (h33 : ¬ c.toInt = 33) (h40 : ¬ c.toInt = 40) (hs : zW (sSum (sB f n.toInt) n.toInt 6 u.toInt) wr w) (hw : wr.toInt = -1) (hp : zLk f n w c2 w2) (hc2 : ¬ (c2.toInt = 61 ∨ c2.toInt = 60 ∨ c2.toInt = 62)) (e0 : zEr fC fV o d (eSum (sB f n.toInt) n.toInt 6 u.toInt) fC2 fV2 d2) : zEr fC fV o d (eTt (sB f n.toInt) n.toInt a.toInt ++ eS2 (sB f n.toInt) n.toInt a.toInt) fC2 fV2 d2 ∧ d = d + ((eTt (sB f n.toInt) n.toInt a.toInt).length : Int) := by
  have g1 : ¬ (sB f n.toInt (sk (sB f n.toInt) n.toInt a.toInt) = 33 ∨ sB f n.toInt (sk (sB f n.toInt) n.toInt a.toInt) = 40) := by rw [h.1, ← h.2]; omega
  have g5 : ¬ eB2 (sB f n.toInt) n.toInt a.toInt = true := fun z => hc2 ((eB2_sR h h33 h40 hs hw hp).mp z)
  have et : eTt (sB f n.toInt) n.toInt a.toInt = [] := by
    unfold eTt
    rw [if_neg g5]
  have es : eS2 (sB f n.toInt) n.toInt a.toInt = eSum (sB f n.toInt) n.toInt 6 u.toInt := by
    unfold eS2
    rw [if_neg g1, if_neg g5, ← eSum_sk, h.1]
  rw [et, es]
  exact ⟨e0, by simp⟩
def zQc (f : Nat → Int32) (n tx a : Int32) (fC fV fD fK fT fS fU fC' fV' fD' fK' fT' fS' fU' : Nat → Int32) : Prop :=
  zEr fC fV (520 * tx.toInt.toNat) (fD tx.toInt.toNat).toInt (eTt (sB f n.toInt) n.toInt (eAf (sB f n.toInt) n.toInt a.toInt) ++ eS2 (sB f n.toInt) n.toInt (eAf (sB f n.toInt) n.toInt a.toInt)) fC' fV' (fD' tx.toInt.toNat).toInt ∧ (fK' tx.toInt.toNat).toInt = (fK tx.toInt.toNat).toInt + 1 ∧ ∀ i : Nat, (i : Int) = 140 * tx.toInt + (fK tx.toInt.toNat).toInt → ((fT' i).toInt = (fD tx.toInt.toNat).toInt ∧ (fS' i).toInt = (fD tx.toInt.toNat).toInt + ((eTt (sB f n.toInt) n.toInt (eAf (sB f n.toInt) n.toInt a.toInt)).length : Int) ∧ (fU' i).toInt = (fD' tx.toInt.toNat).toInt) ∧ ∀ j : Nat, ¬ j = i → fT' j = fT j ∧ fS' j = fS j ∧ fU' j = fU j
theorem zQc_mk {f : Nat → Int32} {n tx a b kx xT xU xK : Int32} {d1 : Int} {fC fV fD fK fT fS fU fC' fV' fD' fK' fT' fS' fU' : Nat → Int32} (ha : eAf (sB f n.toInt) n.toInt a.toInt = b.toInt) (he : zEr fC fV (520 * tx.toInt.toNat) (fD tx.toInt.toNat).toInt (eTt (sB f n.toInt) n.toInt b.toInt ++ eS2 (sB f n.toInt) n.toInt b.toInt) fC' fV' (fD' tx.toInt.toNat).toInt ∧ d1 = (fD tx.toInt.toNat).toInt + ((eTt (sB f n.toInt) n.toInt b.toInt).length : Int)) (hk : kx.toInt = 140 * tx.toInt + (fK tx.toInt.toNat).toInt) (hk0 : 0 ≤ kx.toInt) (eT : fT' = upd fT kx.toNatClampNeg xT) (hT : xT.toInt = (fD tx.toInt.toNat).toInt) (eS : ∀ j : Nat, ¬ j = kx.toInt.toNat → fS' j = fS j) (hS : (fS' kx.toInt.toNat).toInt = d1) (eU : fU' = upd fU kx.toNatClampNeg xU) (hU : xU.toInt = (fD' tx.toInt.toNat).toInt) (eK : fK' = upd fK tx.toNatClampNeg xK) (hK : xK.toInt = (fK tx.toInt.toNat).toInt + 1) : zQc f n tx a fC fV fD fK fT fS fU fC' fV' fD' fK' fT' fS' fU' := by
  have kk : kx.toNatClampNeg = kx.toInt.toNat := rfl
  have tt : tx.toNatClampNeg = tx.toInt.toNat := rfl
  refine ⟨by rw [ha]; exact he.1, by rw [eK, tt, pk_us, hK], fun i hi => ?_⟩
  have ii : i = kx.toInt.toNat := by omega
  rw [ha, ii]
  refine ⟨⟨by rw [eT, kk, pk_us, hT], by rw [hS, he.2], by rw [eU, kk, pk_us, hU]⟩, fun j hj => ⟨by rw [eT, pk_un (by omega)], eS j hj, by rw [eU, pk_un (by omega)]⟩⟩
theorem eAf_R {f : Nat → Int32} {n a c u q c2 u2 q2 : Int32} (h : zLk f n a c u) (hq : q.toInt = u.toInt + 1) (h2 : zLk f n q c2 u2) (hq2 : q2.toInt = u2.toInt + 1) : eAf (sB f n.toInt) n.toInt a.toInt = q2.toInt := by
  unfold eAf
  rw [h.1, ← hq, h2.1, ← hq2]
theorem zup1 {f g : Nat → Int32} {i x : Int32} (e : g = upd f i.toNatClampNeg x) : (∀ j : Nat, ¬ j = i.toInt.toNat → g j = f j) ∧ g i.toInt.toNat = x := by
  rw [e]
  exact ⟨fun j hj => pk_un hj, pk_us⟩
theorem zup2 {f g h : Nat → Int32} {i x y : Int32} (e : g = upd f i.toNatClampNeg x) (e2 : h = upd g i.toNatClampNeg y) : (∀ j : Nat, ¬ j = i.toInt.toNat → h j = f j) ∧ h i.toInt.toNat = y := by
  have a := zup1 e
  have b := zup1 e2
  exact ⟨fun j hj => (b.1 j hj).trans (a.1 j hj), b.2⟩
def eLs (g : Int → Int) (n : Int) (p : Int) : List Int :=
  if _h : p < n ∧ oS (g p) = true then
    (if (sCl g n (p + 1)).1 = 1 then
      (if _h2 : p < sk g n (sCl g n (p + 1)).2 then (p + 1) :: eLs g n (sk g n (sCl g n (p + 1)).2) else [])
    else [])
  else []
termination_by (n - p).toNat
decreasing_by omega
theorem eLs_go {g : Int → Int} {n p : Int} (h1 : p < n) (h2 : oS (g p) = true) (h3 : (sCl g n (p + 1)).1 = 1) (h4 : p < sk g n (sCl g n (p + 1)).2) : eLs g n p = (p + 1) :: eLs g n (sk g n (sCl g n (p + 1)).2) := by
  rw [eLs, dif_pos ⟨h1, h2⟩, if_pos h3, dif_pos h4]
theorem eLs_end {g : Int → Int} {n p : Int} (h : ¬ (p < n ∧ oS (g p) = true)) : eLs g n p = [] := by
  rw [eLs, dif_neg h]
def eCs (g : Int → Int) (n : Int) : List Int := 0 :: eLs g n (sk g n (sCl g n 0).2)
theorem eLw_flat (g : Int → Int) (n : Int) : ∀ (k : Nat) (p : Int), (n - p).toNat ≤ k → eLw g n p = (eLs g n p).flatMap (eCl g n) := by
  intro k
  induction k with
  | zero =>
    intro p hk
    rw [eLw_end (fun z => by omega), eLs_end (fun z => by omega)]
    rfl
  | succ k ih =>
    intro p hk
    by_cases q : p < n ∧ oS (g p) = true
    · by_cases h3 : (sCl g n (p + 1)).1 = 1
      · by_cases h4 : p < sk g n (sCl g n (p + 1)).2
        · rw [eLw_go q.1 q.2 h3 h4, eLs_go q.1 q.2 h3 h4, ih _ (by omega), List.flatMap_cons]
        · rw [eLw, eLs, dif_pos q, dif_pos q, if_pos h3, if_pos h3, dif_neg h4, dif_neg h4]
          rfl
      · rw [eLw, eLs, dif_pos q, dif_pos q, if_neg h3, if_neg h3]
        rfl
    · rw [eLw_end q, eLs_end q]
      rfl
theorem eLaw_flat (g : Int → Int) (n : Int) : eLaw g n = (eCs g n).flatMap (eCl g n) := by
  unfold eLaw eCs
  rw [List.flatMap_cons, eLw_flat g n _ _ (Nat.le_refl _)]
def zAq (fC fV : Nat → Int32) (o : Nat) (s : Int) (l : List (Int × Int)) : Prop := ∀ (i : Nat) (t : Int × Int), l[i]? = some t → (fC (o + s.toNat + i)).toInt = eRc t.1 ∧ ((t.1 = 1 ∨ t.1 = 2) → (fV (o + s.toNat + i)).toInt = t.2)
def zCk (g : Int → Int) (n : Int) (fC fV fT fS fU : Nat → Int32) (tx c : Nat) (a : Int) : Prop := 0 ≤ (fT (140 * tx + c)).toInt ∧ (fS (140 * tx + c)).toInt = (fT (140 * tx + c)).toInt + ((eTt g n (eAf g n a)).length : Int) ∧ (fU (140 * tx + c)).toInt = (fS (140 * tx + c)).toInt + ((eS2 g n (eAf g n a)).length : Int) ∧ zAq fC fV (520 * tx) (fT (140 * tx + c)).toInt (eTt g n (eAf g n a)) ∧ zAq fC fV (520 * tx) (fS (140 * tx + c)).toInt (eS2 g n (eAf g n a))
def zCks (g : Int → Int) (n : Int) (fC fV fT fS fU : Nat → Int32) (tx : Nat) (as : List Int) (D : Int) : Prop := ∀ (c : Nat) (a : Int), as[c]? = some a → zCk g n fC fV fT fS fU tx c a ∧ (fU (140 * tx + c)).toInt ≤ D
theorem zAq_kp {fC fV fC' fV' : Nat → Int32} {o : Nat} {s D : Int} {l : List (Int × Int)} (h : zAq fC fV o s l) (h0 : 0 ≤ s) (hD : s + (l.length : Int) ≤ D) (hk : ∀ j : Nat, (j : Int) < (o : Int) + D → fC' j = fC j ∧ fV' j = fV j) : zAq fC' fV' o s l := by
  intro i t ht
  have hl : i < l.length := by
    by_cases q : i < l.length
    · exact q
    · rw [List.getElem?_eq_none (by omega)] at ht
      exact absurd ht (by simp)
  rw [(hk (o + s.toNat + i) (by omega)).1, (hk (o + s.toNat + i) (by omega)).2]
  exact h i t ht
theorem zCks_s {f : Nat → Int32} {n tx a : Int32} {fC fV fD fK fT fS fU fC' fV' fD' fK' fT' fS' fU' : Nat → Int32} {as : List Int} (h : zCks (sB f n.toInt) n.toInt fC fV fT fS fU tx.toInt.toNat as (fD tx.toInt.toNat).toInt) (hl : (fK tx.toInt.toNat).toInt = (as.length : Int)) (q : zQc f n tx a fC fV fD fK fT fS fU fC' fV' fD' fK' fT' fS' fU') (ht : 0 ≤ tx.toInt) (h0 : 0 ≤ (fD tx.toInt.toNat).toInt) : zCks (sB f n.toInt) n.toInt fC' fV' fT' fS' fU' tx.toInt.toNat (as ++ [a.toInt]) (fD' tx.toInt.toNat).toInt ∧ (fK' tx.toInt.toNat).toInt = ((as ++ [a.toInt]).length : Int) := by
  obtain ⟨e, k, r⟩ := q
  obtain ⟨⟨r1, r2, r3⟩, r4⟩ := r (140 * tx.toInt.toNat + as.length) (by omega)
  obtain ⟨l1, l2, l3⟩ := e
  rw [List.length_append] at l1
  refine ⟨fun c b hb => ?_, by rw [k, hl, List.length_append]; rfl⟩
  by_cases q : c < as.length
  · rw [List.getElem?_append_left q] at hb
    obtain ⟨⟨z1, z2, z3, z4, z5⟩, z6⟩ := h c b hb
    obtain ⟨t1, t2, t3⟩ := r4 (140 * tx.toInt.toNat + c) (by omega)
    unfold zCk
    rw [t1, t2, t3]
    exact ⟨⟨z1, z2, z3, zAq_kp z4 z1 (by omega) l2, zAq_kp z5 (by omega) (by omega) l2⟩, by omega⟩
  · rw [List.getElem?_append_right (by omega)] at hb
    have c0 : c = as.length := by
      by_cases y : c - as.length < 1
      · omega
      · rw [List.getElem?_eq_none (by simp; omega)] at hb
        exact absurd hb (by simp)
    subst c0
    have hb : a.toInt = b := by simpa using hb
    subst hb
    unfold zCk
    rw [r1, r2, r3]
    refine ⟨⟨h0, rfl, by omega, fun i t hi => ?_, fun i t hi => ?_⟩, Int.le_refl _⟩
    · have hl2 : i < (eTt (sB f n.toInt) n.toInt (eAf (sB f n.toInt) n.toInt a.toInt)).length := by
        by_cases y : i < (eTt (sB f n.toInt) n.toInt (eAf (sB f n.toInt) n.toInt a.toInt)).length
        · exact y
        · rw [List.getElem?_eq_none (by omega)] at hi
          exact absurd hi (by simp)
      exact l3 i t (by rw [List.getElem?_append_left hl2]; exact hi)
    · have := l3 (i + (eTt (sB f n.toInt) n.toInt (eAf (sB f n.toInt) n.toInt a.toInt)).length) t (by rw [List.getElem?_append_right (by omega), Nat.add_sub_cancel]; exact hi)
      rw [show 520 * tx.toInt.toNat + ((fD tx.toInt.toNat).toInt + ((eTt (sB f n.toInt) n.toInt (eAf (sB f n.toInt) n.toInt a.toInt)).length : Int)).toNat + i = 520 * tx.toInt.toNat + (fD tx.toInt.toNat).toInt.toNat + (i + (eTt (sB f n.toInt) n.toInt (eAf (sB f n.toInt) n.toInt a.toInt)).length) by omega]
      exact this
def zRl (f : Nat → Int32) (n tx : Int32) (fC fV fD fK fT fS fU : Nat → Int32) (wr p : Int32) : Prop := wr.toInt = -1 → ∃ as : List Int, zCks (sB f n.toInt) n.toInt fC fV fT fS fU tx.toInt.toNat as (fD tx.toInt.toNat).toInt ∧ (fK tx.toInt.toNat).toInt = (as.length : Int) ∧ eCs (sB f n.toInt) n.toInt = as ++ eLs (sB f n.toInt) n.toInt (sk (sB f n.toInt) n.toInt p.toInt)
theorem zRl0 {f : Nat → Int32} {n tx wr u : Int32} {fC fV fD fK fT fS fU fC' fV' fD' fK' fT' fS' fU' : Nat → Int32} (hK : (fK tx.toInt.toNat).toInt = 0) (hD : (fD tx.toInt.toNat).toInt = 0) (ht : 0 ≤ tx.toInt) (hF : zW (sCl (sB f n.toInt) n.toInt (0 : Int32).toInt) wr u) (q : wr.toInt = -1 → zQc f n tx 0 fC fV fD fK fT fS fU fC' fV' fD' fK' fT' fS' fU') : zRl f n tx fC' fV' fD' fK' fT' fS' fU' wr u := by
  intro hw
  obtain ⟨c1, c2⟩ := zCks_s (as := []) (fun c a h => by simp at h) (by rw [hK]; rfl) (q hw) ht (by omega)
  refine ⟨_, c1, c2, ?_⟩
  have y := zW_1 hF hw
  rw [show (0 : Int32).toInt = 0 from by decide] at y ⊢
  unfold eCs
  rw [y]
  rfl
theorem zRlS {f : Nat → Int32} {n tx wr p v u q wr2 u2 : Int32} {fC fV fD fK fT fS fU fC' fV' fD' fK' fT' fS' fU' : Nat → Int32} (h : zRl f n tx fC fV fD fK fT fS fU wr p) (hw : wr.toInt = -1) (hp : zLk f n p v u) (hv : v.toInt = 59) (hq : q.toInt = u.toInt + 1) (hF : zW (sCl (sB f n.toInt) n.toInt q.toInt) wr2 u2) (hm : ∀ a, (sCl (sB f n.toInt) n.toInt a).1 = 1 → a < (sCl (sB f n.toInt) n.toInt a).2) (Q : wr2.toInt = -1 → zQc f n tx q fC fV fD fK fT fS fU fC' fV' fD' fK' fT' fS' fU') (ht : 0 ≤ tx.toInt) (h0 : 0 ≤ (fD tx.toInt.toNat).toInt) : zRl f n tx fC' fV' fD' fK' fT' fS' fU' wr2 u2 := by
  intro hw2
  obtain ⟨as, a1, a2, a3⟩ := h hw
  obtain ⟨c1, c2⟩ := zCks_s a1 a2 (Q hw2) ht h0
  refine ⟨_, c1, c2, ?_⟩
  have y := zW_1 hF hw2
  have m := hm q.toInt (by rw [y])
  rw [y] at m
  have m : q.toInt < u2.toInt := m
  have k := sk_ge (sB f n.toInt) n.toInt u2.toInt
  have l := sB_lt (f := f) (n := n.toInt) (a := u.toInt) (by rw [← hp.2]; omega)
  rw [a3, hp.1, eLs_go l.2 (oS_iff.mpr (by rw [← hp.2]; exact hv)) (by rw [← hq, y]) (by rw [← hq, y]; show _ < sk (sB f n.toInt) n.toInt u2.toInt; omega), ← hq, y]
  simp only [List.append_assoc, List.cons_append, List.nil_append]
theorem zRlE {f : Nat → Int32} {n tx wr p v u : Int32} {fC fV fD fK fT fS fU : Nat → Int32} (h : zRl f n tx fC fV fD fK fT fS fU wr p) (hp : zLk f n p v u) (hv : ¬ v.toInt = 59) : wr.toInt = -1 → zCks (sB f n.toInt) n.toInt fC fV fT fS fU tx.toInt.toNat (eCs (sB f n.toInt) n.toInt) (fD tx.toInt.toNat).toInt ∧ (fK tx.toInt.toNat).toInt = ((eCs (sB f n.toInt) n.toInt).length : Int) := by
  intro hw
  obtain ⟨as, a1, a2, a3⟩ := h hw
  rw [hp.1, eLs_end (fun z => hv (by rw [hp.2]; exact oS_iff.mp z.2)), List.append_nil] at a3
  rw [a3]
  exact ⟨a1, a2⟩
