def eC (t : Int × Int) : Int32 := Int32.ofInt t.1 ||| (Int32.ofInt t.2 <<< 8)
def zEm (f : Nat → Int32) (s : Int32) (l : List (Int × Int)) (f' : Nat → Int32) (s' : Int32) : Prop := s'.toInt = s.toInt + (l.length : Int) ∧ (∀ j : Nat, (j : Int) < s.toInt → f' j = f j) ∧ ∀ (i : Nat) (t : Int × Int), l[i]? = some t → f' (s.toInt.toNat + i) = eC t
theorem zEm_nil {f : Nat → Int32} {s : Int32} : zEm f s [] f s := ⟨by simp, fun _ _ => rfl, fun i t h => by simp at h⟩
theorem zEm_app {f f1 f2 : Nat → Int32} {s s1 s2 : Int32} {l1 l2 : List (Int × Int)} (h1 : zEm f s l1 f1 s1) (h2 : zEm f1 s1 l2 f2 s2) (h0 : 0 ≤ s.toInt) : zEm f s (l1 ++ l2) f2 s2 := by
  obtain ⟨a1, b1, c1⟩ := h1
  obtain ⟨a2, b2, c2⟩ := h2
  refine ⟨by rw [List.length_append]; omega, fun j hj => by rw [b2 j (by omega), b1 j hj], fun i t ht => ?_⟩
  by_cases q : i < l1.length
  · rw [List.getElem?_append_left q] at ht
    rw [b2 _ (by omega)]
    exact c1 i t ht
  · rw [List.getElem?_append_right (by omega)] at ht
    have := c2 _ t ht
    rw [show s1.toInt.toNat + (i - l1.length) = s.toInt.toNat + i by omega] at this
    exact this
theorem zEm_one {f f' : Nat → Int32} {s s' x : Int32} {t : Int × Int} (e : f' = upd f s.toNatClampNeg x) (ex : x = eC t) (hs : s'.toInt = s.toInt + 1) (h0 : 0 ≤ s.toInt) : zEm f s [t] f' s' := by
  have ss : s.toNatClampNeg = s.toInt.toNat := rfl
  refine ⟨by rw [hs]; rfl, fun j hj => by rw [e, pk_un (by omega)], fun i u hu => ?_⟩
  cases i with
  | zero =>
    have hu : t = u := by simpa using hu
    rw [← hu, ← ex, e, Nat.add_zero, ← ss, pk_us]
  | succ i => simp at hu
theorem z8a : (8 : Int32) &&& 31 = 8 := by decide
theorem zEm_v {f f' : Nat → Int32} {s s' x y p q : Int32} (e : f' = upd f s.toNatClampNeg x) (ex : x = p ||| y) (ey : y = q <<< ((8 : Int32) &&& 31)) (hs : s'.toInt = s.toInt + 1) (h0 : 0 ≤ s.toInt) : zEm f s [(p.toInt, q.toInt)] f' s' := by
  refine zEm_one e ?_ hs h0
  unfold eC
  rw [ex, ey, z8a]
  show _ = Int32.ofInt p.toInt ||| (Int32.ofInt q.toInt <<< 8)
  rw [Int32.ofInt_toInt, Int32.ofInt_toInt]
theorem zEm_z {f f' : Nat → Int32} {s s' x p : Int32} (e : f' = upd f s.toNatClampNeg x) (ex : x = p ||| 0) (hs : s'.toInt = s.toInt + 1) (h0 : 0 ≤ s.toInt) : zEm f s [(p.toInt, 0)] f' s' := by
  refine zEm_one e ?_ hs h0
  unfold eC
  rw [ex]
  show _ = Int32.ofInt p.toInt ||| (Int32.ofInt 0 <<< 8)
  rw [Int32.ofInt_toInt]
  rfl
theorem zltE {i v : Int32} (x : v = zTl 0 i.toNatClampNeg) (h0 : 0 ≤ i.toInt) (h : i.toInt < 6) : eLt v.toInt = i.toInt := by
  have hk : i.toNatClampNeg < 6 := by show i.toInt.toNat < 6; omega
  rw [x]
  generalize hj : i.toNatClampNeg = k at hk
  have e := zi32 hj h0
  rw [e]
  match k, hk with
  | 0, _ => decide
  | 1, _ => decide
  | 2, _ => decide
  | 3, _ => decide
  | 4, _ => decide
  | 5, _ => decide
  | k + 6, h => exact absurd h (by omega)
theorem eAtm_let {g : Int → Int} {n a : Int} {K : Nat} (h91 : ¬ g (sk g n a) = 91) (hl : g (sk g n a) = 102 ∨ g (sk g n a) = 119 ∨ g (sk g n a) = 121 ∨ g (sk g n a) = 115 ∨ g (sk g n a) = 97 ∨ g (sk g n a) = 109) : eAtm g n K a = [(2, eLt (g (sk g n a)))] := by
  cases K
  · show eAt _ _ true (fun _ => []) _ = _
    unfold eAt
    rw [if_neg h91, if_pos hl]
  · show eAt _ _ false (eSum g n _) _ = _
    unfold eAt
    rw [if_neg h91, if_pos hl]
theorem eAtm_num {g : Int → Int} {n a : Int} {K : Nat} (h91 : ¬ g (sk g n a) = 91) (hl : ¬ (g (sk g n a) = 102 ∨ g (sk g n a) = 119 ∨ g (sk g n a) = 121 ∨ g (sk g n a) = 115 ∨ g (sk g n a) = 97 ∨ g (sk g n a) = 109)) : eAtm g n K a = [(1, sNv g (sk g n a))] := by
  cases K
  · show eAt _ _ true (fun _ => []) _ = _
    unfold eAt
    rw [if_neg h91, if_neg hl]
  · show eAt _ _ false (eSum g n _) _ = _
    unfold eAt
    rw [if_neg h91, if_neg hl]
theorem fea_b {f fS fS' : Nat → Int32} {n a c u q s s' : Int32} {K : Nat} (h : zPK f n a c u) (hc : c.toInt = 91) (hq : q.toInt = u.toInt + 1) (he : zEm fS s (eSum (sB f n.toInt) n.toInt K q.toInt) fS' s') : zEm fS s (eAtm (sB f n.toInt) n.toInt (K + 1) a.toInt) fS' s' := by
  have e : eAtm (sB f n.toInt) n.toInt (K + 1) a.toInt = eSum (sB f n.toInt) n.toInt K q.toInt := by
    show eAt _ _ false (eSum _ _ K) _ = _
    unfold eAt
    rw [if_pos ((zpk_is h (by decide)).mpr hc), if_neg (by decide), h.1, ← hq]
  rw [e]
  exact he
theorem fea_l {f fS fS' : Nat → Int32} {n a c u v i s s' : Int32} {K : Nat} (h : zPK f n a c u) (hc : ¬ c.toInt = 91) (x : v = zTl 0 i.toNatClampNeg) (h0 : 0 ≤ i.toInt) (h6 : i.toInt < 6) (hv : c.toInt = v.toInt) (he : zEm fS s [((2 : Int32).toInt, i.toInt)] fS' s') : zEm fS s (eAtm (sB f n.toInt) n.toInt K a.toInt) fS' s' := by
  have l := zlet x h0 h6
  have e1 := zpk_is h (c := v.toInt) (by omega)
  have e2 := e1.mpr hv
  rw [show (2 : Int32).toInt = 2 from by decide] at he
  have e : eAtm (sB f n.toInt) n.toInt K a.toInt = [(2, i.toInt)] := by
    rw [eAtm_let (fun z => hc ((zpk_is h (by decide)).mp z)) (by omega), e2, zltE x h0 h6]
  rw [e]
  exact he
theorem fea_n {f fS fS' : Nat → Int32} {n a c u i r s s' : Int32} {K : Nat} (h : zPK f n a c u) (hc : ¬ c.toInt = 91) (hl : zNl i c) (hi : 6 ≤ i.toInt) (hv : r.toInt = sNv (sB f n.toInt) u.toInt) (he : zEm fS s [((1 : Int32).toInt, r.toInt)] fS' s') : zEm fS s (eAtm (sB f n.toInt) n.toInt K a.toInt) fS' s' := by
  have l := zNl6 hl hi
  have e : sB f n.toInt (sk (sB f n.toInt) n.toInt a.toInt) = c.toInt ∨ sB f n.toInt (sk (sB f n.toInt) n.toInt a.toInt) = -1 := by
    rw [h.1]
    rcases h.2 with q | q
    · exact Or.inl q.1
    · exact Or.inr q.1
  rw [show (1 : Int32).toInt = 1 from by decide] at he
  have e2 : eAtm (sB f n.toInt) n.toInt K a.toInt = [(1, r.toInt)] := by
    rw [eAtm_num (fun z => hc ((zpk_is h (by decide)).mp z)) (by omega), h.1, hv]
  rw [e2]
  exact he
def zVd (f : Nat → Int32) (n a h v : Int32) : Prop := v.toInt = sDv (sB f n.toInt) a.toInt h.toInt.toNat
theorem zVd0 {f : Nat → Int32} {n a : Int32} : zVd f n a 0 0 := rfl
theorem zVdS {f : Nat → Int32} {n a h v h' v' p x y : Int32} (hv : zVd f n a h v) (h0 : 0 ≤ h.toInt) (hp : p.toInt = a.toInt + h.toInt) (hp0 : 0 ≤ p.toInt) (hpn : p.toInt < n.toInt) (e : x = f p.toNatClampNeg) (hh : h'.toInt = h.toInt + 1) (hv' : v'.toInt = 10 * v.toInt + x.toInt - 48) : zVd f n a h' v' := by
  unfold zVd at hv ⊢
  rw [show h'.toInt.toNat = h.toInt.toNat + 1 by omega]
  unfold sDv
  rw [← hv, hv', show a.toInt + ((h.toInt.toNat : Nat) : Int) = p.toInt by omega, sB_at e hp0 hpn]
  omega
theorem zVdE {f : Nat → Int32} {n a h v u : Int32} (hv : zVd f n a h v) (hu : u.toInt = a.toInt + h.toInt) (hn : sNum (sB f n.toInt) a.toInt = (1, u.toInt)) : v.toInt = sNv (sB f n.toInt) a.toInt := by
  unfold sNv
  rw [hn]
  show v.toInt = sDv _ _ (u.toInt - a.toInt).toNat
  rw [show u.toInt - a.toInt = h.toInt by omega]
  exact hv
def zSe (f : Nat → Int32) (n : Int32) (op op1 : Int → Bool) (F : Int → Int × Int) (E : Int → List (Int × Int)) (T : List (Int × Int)) (fS : Nat → Int32) (s : Int32) (fS1 : Nat → Int32) (s1 : Int32) (wt : Int) (p : Int32) : Prop := ∃ pre : List (Int × Int), zEm fS s pre fS1 s1 ∧ T = pre ++ eS1 (sB f n.toInt) n.toInt op op1 F E wt p.toInt
theorem fse_b {f fS fS1 : Nat → Int32} {n r u c w s s1 : Int32} {op op1 : Int → Bool} {F : Int → Int × Int} {E : Int → List (Int × Int)} {T L : List (Int × Int)} {x : Int × Int} {wt : Int} (hT : T = L ++ eS1 (sB f n.toInt) n.toInt op op1 F E 0 (sk (sB f n.toInt) n.toInt x.2)) (hF : zF x r u) (hr : r.toInt = 1) (hp : zPK f n u c w) (he : zEm fS s L fS1 s1) (hw : wt = 0) : zSe f n op op1 F E T fS s fS1 s1 wt w := by
  refine ⟨_, he, ?_⟩
  have e := zF_1 hF hr
  rw [hT, e, hw]
  show _ ++ eS1 _ _ _ _ _ _ 0 (sk (sB f n.toInt) n.toInt u.toInt) = _
  rw [hp.1]
theorem fse_go {f : Nat → Int32} {n p t q r u c w : Int32} {op : Int → Bool} {F : Int → Int × Int} (hs : zSg f n p t) (ho : op t.toInt = true) (h1 : op 0 = false) (hq : q.toInt = p.toInt + 1) (hF : zF (F q.toInt) r u) (hr : r.toInt = 1) (hm : q.toInt < u.toInt) (hp : zPK f n u c w) : p.toInt < n.toInt ∧ sB f n.toInt p.toInt = t.toInt ∧ (F (p.toInt + 1)).1 = 1 ∧ sk (sB f n.toInt) n.toInt (F (p.toInt + 1)).2 = w.toInt ∧ p.toInt < w.toInt := by
  have e := zF_1 hF hr
  have h3 := sk_ge (sB f n.toInt) n.toInt u.toInt
  rcases hs with z | z
  · rw [← hq, e]
    refine ⟨z.2.2, z.1, rfl, hp.1, ?_⟩
    rw [← hp.1]
    omega
  · rw [z.2.1, h1] at ho
    exact absurd ho (by decide)
theorem fse_y {f fS fS1 fS2 fS3 : Nat → Int32} {n p t q r u c w s s1 s2 s3 : Int32} {op op1 : Int → Bool} {F : Int → Int × Int} {E : Int → List (Int × Int)} {T : List (Int × Int)} {wt x : Int} (h : zSe f n op op1 F E T fS s fS1 s1 wt p) (hs : zSg f n p t) (ho : op t.toInt = true) (h1 : op 0 = false) (hq : q.toInt = p.toInt + 1) (hF : zF (F q.toInt) r u) (hr : r.toInt = 1) (hm : q.toInt < u.toInt) (hp : zPK f n u c w) (ho1 : op1 t.toInt = true) (he : zEm fS1 s1 (E q.toInt) fS2 s2) (hb : zEm fS2 s2 [(x, 0)] fS3 s3) (hx : x = t.toInt) (h0 : 0 ≤ s.toInt) (h01 : 0 ≤ s1.toInt) : zSe f n op op1 F E T fS s fS3 s3 wt w := by
  obtain ⟨pre, e1, e2⟩ := h
  obtain ⟨g1, g2, g3, g4, g5⟩ := fse_go hs ho h1 hq hF hr hm hp
  rw [hx] at hb
  refine ⟨pre ++ (E q.toInt ++ [(t.toInt, 0)]), zEm_app e1 (zEm_app he hb h01) h0, ?_⟩
  rw [e2, eS1_y g1 (by rw [g2]; exact ho) g3 (by rw [g4]; exact g5) (by rw [g2]; exact ho1), g2, g4, ← hq]
  simp only [List.append_assoc, List.cons_append, List.nil_append]
theorem fse_n {f fS fS1 fS2 fS3 : Nat → Int32} {n p t q r u c w s s1 s2 s3 : Int32} {op op1 : Int → Bool} {F : Int → Int × Int} {E : Int → List (Int × Int)} {T : List (Int × Int)} {wt wt' : Int} (h : zSe f n op op1 F E T fS s fS1 s1 wt p) (hs : zSg f n p t) (ho : op t.toInt = true) (h1 : op 0 = false) (hq : q.toInt = p.toInt + 1) (hF : zF (F q.toInt) r u) (hr : r.toInt = 1) (hm : q.toInt < u.toInt) (hp : zPK f n u c w) (ho1 : ¬ op1 t.toInt = true) (hb : zEm fS1 s1 (eW wt) fS2 s2) (he : zEm fS2 s2 (E q.toInt) fS3 s3) (hw : wt' = t.toInt) (h0 : 0 ≤ s.toInt) (h01 : 0 ≤ s1.toInt) : zSe f n op op1 F E T fS s fS3 s3 wt' w := by
  obtain ⟨pre, e1, e2⟩ := h
  obtain ⟨g1, g2, g3, g4, g5⟩ := fse_go hs ho h1 hq hF hr hm hp
  refine ⟨pre ++ (eW wt ++ E q.toInt), zEm_app e1 (zEm_app hb he h01) h0, ?_⟩
  rw [e2, eS1_n g1 (by rw [g2]; exact ho) g3 (by rw [g4]; exact g5) (by rw [g2]; exact ho1), g2, g4, ← hq, hw]
  simp only [List.append_assoc]
theorem fse_e {f fS fS1 fS2 : Nat → Int32} {n p t s s1 s2 : Int32} {op op1 : Int → Bool} {F : Int → Int × Int} {E : Int → List (Int × Int)} {T : List (Int × Int)} {wt : Int} (h : zSe f n op op1 F E T fS s fS1 s1 wt p) (hc : n.toInt ≤ p.toInt ∨ (zSg f n p t ∧ ¬ op t.toInt = true)) (hb : zEm fS1 s1 (eW wt) fS2 s2) (h0 : 0 ≤ s.toInt) : zEm fS s T fS2 s2 := by
  obtain ⟨pre, e1, e2⟩ := h
  have e : eS1 (sB f n.toInt) n.toInt op op1 F E wt p.toInt = eW wt := by
    refine eS1_end (fun z => ?_)
    rcases hc with q | ⟨q, q2⟩
    · omega
    · rcases q with y | y
      · rw [y.1] at z
        exact q2 z.2
      · omega
  rw [e2, e]
  exact zEm_app e1 hb h0
theorem eW_0 {f : Nat → Int32} {s : Int32} {wt : Int} (h : wt = 0) : zEm f s (eW wt) f s := by
  unfold eW
  rw [if_pos h]
  exact zEm_nil
theorem eW_1 {f f' : Nat → Int32} {s s' : Int32} {wt x : Int} (h : ¬ wt = 0) (hx : wt = x) (he : zEm f s [(x, 0)] f' s') : zEm f s (eW wt) f' s' := by
  unfold eW
  rw [if_neg h, hx]
  exact he
theorem eUn_not {f fS fS1 fS2 : Nat → Int32} {n a c u q s s1 s2 : Int32} {K : Nat} (h : zPK f n a c u) (hc : c.toInt = 33) (hq : q.toInt = u.toInt + 1) (he : zEm fS s (eUn (sB f n.toInt) n.toInt K q.toInt) fS1 s1) (hb : zEm fS1 s1 [((33 : Int32).toInt, 0)] fS2 s2) (h0 : 0 ≤ s.toInt) : zEm fS s (eUn (sB f n.toInt) n.toInt (K + 1) a.toInt) fS2 s2 := by
  rw [show (33 : Int32).toInt = 33 from by decide] at hb
  have e : eUn (sB f n.toInt) n.toInt (K + 1) a.toInt = eUn (sB f n.toInt) n.toInt K q.toInt ++ [(33, 0)] := by
    show eUn1 _ _ _ _ _ _ _ = _
    unfold eUn1
    rw [if_pos ((zpk_is h (by decide)).mpr hc), h.1, ← hq]
  rw [e]
  exact zEm_app he hb h0
theorem eUn_par {f fS fS1 : Nat → Int32} {n a c u q s s1 : Int32} {K : Nat} (h : zPK f n a c u) (hc : c.toInt = 40) (hq : q.toInt = u.toInt + 1) (he : zEm fS s (eCon (sB f n.toInt) n.toInt K q.toInt) fS1 s1) : zEm fS s (eUn (sB f n.toInt) n.toInt (K + 1) a.toInt) fS1 s1 := by
  have e : eUn (sB f n.toInt) n.toInt (K + 1) a.toInt = eCon (sB f n.toInt) n.toInt K q.toInt := by
    show eUn1 _ _ _ _ _ _ _ = _
    unfold eUn1 eCon
    have e1 := (zpk_is h (c := 40) (by decide)).mpr hc
    rw [if_neg (by omega), if_pos e1, h.1, ← hq]
  rw [e]
  exact he
theorem eUn_sum {g : Int → Int} {n a : Int} {K : Nat} (h1 : ¬ g (sk g n a) = 33) (h2 : ¬ g (sk g n a) = 40) : eUn g n K a = eSum g n K a ++ eCmp g n (eSum g n K) (sSum g n K a).2 := by
  cases K
  · show eUn1 _ _ _ _ _ _ _ = _
    unfold eUn1
    rw [if_neg h1, if_neg h2]
  · show eUn1 _ _ _ _ _ _ _ = _
    unfold eUn1
    rw [if_neg h1, if_neg h2]
theorem eAt_sk (g : Int → Int) (n : Int) (top : Bool) (ES : Int → List (Int × Int)) (a : Int) : eAt g n top ES (sk g n a) = eAt g n top ES a := by
  unfold eAt
  rw [sk_id]
theorem eAtm_sk (g : Int → Int) (n : Int) (k : Nat) (a : Int) : eAtm g n k (sk g n a) = eAtm g n k a := by
  cases k
  · exact eAt_sk g n true (fun _ => []) a
  · exact eAt_sk g n false _ a
theorem eSum_sk (g : Int → Int) (n : Int) (k : Nat) (a : Int) : eSum g n k (sk g n a) = eSum g n k a := by
  rw [eSum_eq, eSum_eq, eAtm_sk, sAtm_sk]
theorem eUn_cmp {f fS fS1 fS2 fS3 : Nat → Int32} {n a c u r w c2 w2 q s s1 s2 s3 : Int32} {K : Nat} (h : zPK f n a c u) (h1 : ¬ c.toInt = 33) (h2 : ¬ c.toInt = 40) (hs : zF (sSum (sB f n.toInt) n.toInt K u.toInt) r w) (hr : r.toInt = 1) (he : zEm fS s (eSum (sB f n.toInt) n.toInt K u.toInt) fS1 s1) (hp : zPK f n w c2 w2) (hc : 1 ≤ c2.toInt) (hq : q.toInt = w2.toInt + 1) (he2 : zEm fS1 s1 (eSum (sB f n.toInt) n.toInt K q.toInt) fS2 s2) (hb : zEm fS2 s2 [(c2.toInt, 0)] fS3 s3) (h0 : 0 ≤ s.toInt) (h01 : 0 ≤ s1.toInt) : zEm fS s (eUn (sB f n.toInt) n.toInt K a.toInt) fS3 s3 := by
  have e : eUn (sB f n.toInt) n.toInt K a.toInt = eSum (sB f n.toInt) n.toInt K u.toInt ++ (eSum (sB f n.toInt) n.toInt K q.toInt ++ [(c2.toInt, 0)]) := by
    rw [eUn_sum (fun z => h1 ((zpk_is h (by decide)).mp z)) (fun z => h2 ((zpk_is h (by decide)).mp z)), ← sSum_sk, ← eSum_sk, h.1, zF_1 hs hr]
    unfold eCmp
    show _ ++ (eSum _ _ K (sk (sB f n.toInt) n.toInt w.toInt + 1) ++ [(sB f n.toInt (sk (sB f n.toInt) n.toInt w.toInt), 0)]) = _
    rw [(zpk_is hp hc).mpr rfl, hp.1, ← hq]
  rw [e]
  exact zEm_app he (zEm_app he2 hb h01) h0
theorem eCmp_em {f fS fS2 fS3 : Nat → Int32} {n a c u q s s2 s3 : Int32} {K : Nat} (hp : zPK f n a c u) (hc : 1 ≤ c.toInt) (hq : q.toInt = u.toInt + 1) (he2 : zEm fS s (eSum (sB f n.toInt) n.toInt K q.toInt) fS2 s2) (hb : zEm fS2 s2 [(c.toInt, 0)] fS3 s3) (h0 : 0 ≤ s.toInt) : zEm fS s (eCmp (sB f n.toInt) n.toInt (eSum (sB f n.toInt) n.toInt K) a.toInt) fS3 s3 := by
  have e : eCmp (sB f n.toInt) n.toInt (eSum (sB f n.toInt) n.toInt K) a.toInt = eSum (sB f n.toInt) n.toInt K q.toInt ++ [(c.toInt, 0)] := by
    unfold eCmp
    rw [(zpk_is hp hc).mpr rfl, hp.1, ← hq]
  rw [e]
  exact zEm_app he2 hb h0
theorem eCmp_sk {g : Int → Int} {n a : Int} {E : Int → List (Int × Int)} : eCmp g n E (sk g n a) = eCmp g n E a := by
  unfold eCmp
  rw [sk_id]
theorem eCmp_em2 {f fS fS2 fS3 : Nat → Int32} {n a c4 u4 c u q s s2 s3 : Int32} {K : Nat} (h4 : zPK f n a c4 u4) (hp : zPK f n u4 c u) (hc : 1 ≤ c.toInt) (hq : q.toInt = u.toInt + 1) (he2 : zEm fS s (eSum (sB f n.toInt) n.toInt K q.toInt) fS2 s2) (hb : zEm fS2 s2 [(c.toInt, 0)] fS3 s3) (h0 : 0 ≤ s.toInt) : zEm fS s (eCmp (sB f n.toInt) n.toInt (eSum (sB f n.toInt) n.toInt K) a.toInt) fS3 s3 := by
  rw [← eCmp_sk, h4.1]
  exact eCmp_em hp hc hq he2 hb h0
theorem eUn_sk (g : Int → Int) (n : Int) (k : Nat) (a : Int) : eUn g n k (sk g n a) = eUn g n k a := by
  cases k
  · show eUn1 _ _ _ _ _ _ _ = eUn1 _ _ _ _ _ _ _
    unfold eUn1
    rw [sk_id, eSum_sk, sSum_sk]
  · show eUn1 _ _ _ _ _ _ _ = eUn1 _ _ _ _ _ _ _
    unfold eUn1
    rw [sk_id, eSum_sk, sSum_sk]
theorem eCon_sk (g : Int → Int) (n : Int) (k : Nat) (a : Int) : eCon g n k (sk g n a) = eCon g n k a := by
  unfold eCon
  rw [eUn_sk, sUn_sk]
theorem eGo_sk (g : Int → Int) (n : Int) (a : Int) : eGo g n (sk g n a) = eGo g n a := by
  unfold eGo
  rw [eCmp_sk]
  have e : sCmp g n (sSum g n 6) (sk g n a) = sCmp g n (sSum g n 6) a := by
    unfold sCmp
    rw [sk_id]
  rw [e]
theorem eB2_s {f : Nat → Int32} {n a c u r w c2 w2 : Int32} (h : zPK f n a c u) (h1 : ¬ c.toInt = 33) (h2 : ¬ c.toInt = 40) (hs : zF (sSum (sB f n.toInt) n.toInt 6 u.toInt) r w) (hr : r.toInt = 1) (hp : zPK f n w c2 w2) : eB2 (sB f n.toInt) n.toInt a.toInt = true ↔ (c2.toInt = 61 ∨ c2.toInt = 60 ∨ c2.toInt = 62) := by
  have e : (sSum (sB f n.toInt) n.toInt 6 a.toInt).2 = w.toInt := by rw [← sSum_sk, h.1, zF_1 hs hr]
  have a1 := zpk_is h (c := 33) (by decide)
  have a2 := zpk_is h (c := 40) (by decide)
  have b1 := zpk_is hp (c := 61) (by decide)
  have b2 := zpk_is hp (c := 60) (by decide)
  have b3 := zpk_is hp (c := 62) (by decide)
  unfold eB2
  rw [decide_eq_true_iff, e]
  omega
theorem eB2_t {f : Nat → Int32} {n a c u : Int32} (h : zPK f n a c u) (hc : c.toInt = 33 ∨ c.toInt = 40) : eB2 (sB f n.toInt) n.toInt a.toInt = true := by
  have a1 := zpk_is h (c := 33) (by decide)
  have a2 := zpk_is h (c := 40) (by decide)
  unfold eB2
  rw [decide_eq_true_iff]
  omega
theorem eCl2_t {f fS f1 f2 f3 f4 : Nat → Int32} {n a c u r w r2 w2 s s1 s2 s3 s4 : Int32} (h : zPK f n a c u) (hc : c.toInt = 33 ∨ c.toInt = 40) (hs : zF (sCon (sB f n.toInt) n.toInt 6 u.toInt) r w) (hr : r.toInt = 1) (ht : zTk f n w 63 r2 w2) (hr2 : ¬ r2.toInt = 0) (e1 : zEm fS s (eCon (sB f n.toInt) n.toInt 6 u.toInt) f1 s1) (e2 : zEm f1 s1 [((63 : Int32).toInt, 0)] f2 s2) (e3 : zEm f2 s2 (eSum (sB f n.toInt) n.toInt 6 w2.toInt) f3 s3) (e4 : zEm f3 s3 [((59 : Int32).toInt, 0)] f4 s4) (h0 : 0 ≤ s.toInt) (h1 : 0 ≤ s1.toInt) (h2 : 0 ≤ s2.toInt) : zEm fS s (eCl2 (sB f n.toInt) n.toInt a.toInt) f4 s4 := by
  rw [show (63 : Int32).toInt = 63 from by decide] at e2
  rw [show (59 : Int32).toInt = 59 from by decide] at e4
  have g1 : sB f n.toInt (sk (sB f n.toInt) n.toInt a.toInt) = 33 ∨ sB f n.toInt (sk (sB f n.toInt) n.toInt a.toInt) = 40 := by
    have a1 := zpk_is h (c := 33) (by decide)
    have a2 := zpk_is h (c := 40) (by decide)
    omega
  have g2 : sk (sB f n.toInt) n.toInt w.toInt + 1 = w2.toInt := by
    rcases ht with q | q
    · exact q.2.1.symm
    · exact absurd q.1 hr2
  have g3 : sCon (sB f n.toInt) n.toInt 6 a.toInt = (1, w.toInt) := by rw [← sCon_sk, h.1, zF_1 hs hr]
  have e : eCl2 (sB f n.toInt) n.toInt a.toInt = eCon (sB f n.toInt) n.toInt 6 u.toInt ++ ([(63, 0)] ++ (eSum (sB f n.toInt) n.toInt 6 w2.toInt ++ [(59, 0)])) := by
    unfold eCl2 eT2 eS2
    rw [if_pos (eB2_t h hc), if_pos g1, if_pos g1, g3, ← eCon_sk, h.1]
    show _ ++ ((63, 0) :: (eSum _ _ 6 (sk (sB f n.toInt) n.toInt w.toInt + 1) ++ [(59, 0)])) = _
    rw [g2]
    rfl
  rw [e]
  exact zEm_app e1 (zEm_app e2 (zEm_app e3 e4 h2) h1) h0
theorem eCl2_c {f fS f0 f1 f2 f3 f4 : Nat → Int32} {n a c u r w c2 w2 r5 w5 r2 w6 s s0 s1 s2 s3 s4 : Int32} (h : zPK f n a c u) (h33 : ¬ c.toInt = 33) (h40 : ¬ c.toInt = 40) (hs : zF (sSum (sB f n.toInt) n.toInt 6 u.toInt) r w) (hr : r.toInt = 1) (hp : zPK f n w c2 w2) (hc2 : c2.toInt = 61 ∨ c2.toInt = 60 ∨ c2.toInt = 62) (hg : zF (sGo (sB f n.toInt) n.toInt w2.toInt) r5 w5) (hr5 : r5.toInt = 1) (ht : zTk f n w5 63 r2 w6) (hr2 : ¬ r2.toInt = 0) (e0 : zEm fS s (eSum (sB f n.toInt) n.toInt 6 u.toInt) f0 s0) (e1 : zEm f0 s0 (eGo (sB f n.toInt) n.toInt w2.toInt) f1 s1) (e2 : zEm f1 s1 [((63 : Int32).toInt, 0)] f2 s2) (e3 : zEm f2 s2 (eSum (sB f n.toInt) n.toInt 6 w6.toInt) f3 s3) (e4 : zEm f3 s3 [((59 : Int32).toInt, 0)] f4 s4) (h0 : 0 ≤ s.toInt) (h00 : 0 ≤ s0.toInt) (h1 : 0 ≤ s1.toInt) (h2 : 0 ≤ s2.toInt) : zEm fS s (eCl2 (sB f n.toInt) n.toInt a.toInt) f4 s4 := by
  rw [show (63 : Int32).toInt = 63 from by decide] at e2
  rw [show (59 : Int32).toInt = 59 from by decide] at e4
  have g1 : ¬ (sB f n.toInt (sk (sB f n.toInt) n.toInt a.toInt) = 33 ∨ sB f n.toInt (sk (sB f n.toInt) n.toInt a.toInt) = 40) := by
    have a1 := zpk_is h (c := 33) (by decide)
    have a2 := zpk_is h (c := 40) (by decide)
    omega
  have g2 : sk (sB f n.toInt) n.toInt w5.toInt + 1 = w6.toInt := by
    rcases ht with q | q
    · exact q.2.1.symm
    · exact absurd q.1 hr2
  have g3 : sSum (sB f n.toInt) n.toInt 6 a.toInt = (1, w.toInt) := by rw [← sSum_sk, h.1, zF_1 hs hr]
  have g4 : sGo (sB f n.toInt) n.toInt w.toInt = (1, w5.toInt) := by rw [← sGo_sk hp, zF_1 hg hr5]
  have g5 := (eB2_s h h33 h40 hs hr hp).mpr hc2
  have e : eCl2 (sB f n.toInt) n.toInt a.toInt = eSum (sB f n.toInt) n.toInt 6 u.toInt ++ (eGo (sB f n.toInt) n.toInt w2.toInt ++ ([(63, 0)] ++ (eSum (sB f n.toInt) n.toInt 6 w6.toInt ++ [(59, 0)]))) := by
    unfold eCl2 eT2 eS2
    rw [if_pos g5, if_neg g1, if_neg g1, if_pos g5, g3, ← eSum_sk, h.1]
    show (_ ++ eGo _ _ w.toInt) ++ ((63, 0) :: (eSum _ _ 6 (sk (sB f n.toInt) n.toInt (sGo (sB f n.toInt) n.toInt w.toInt).2 + 1) ++ [(59, 0)])) = _
    rw [g4, ← eGo_sk, hp.1, List.append_assoc]
    show _ ++ (_ ++ ((63, 0) :: (eSum _ _ 6 (sk (sB f n.toInt) n.toInt w5.toInt + 1) ++ [(59, 0)]))) = _
    rw [g2]
    rfl
  rw [e]
  exact zEm_app e0 (zEm_app e1 (zEm_app e2 (zEm_app e3 e4 h2) h1) h00) h0
theorem eCl2_s {f fS f1 f4 : Nat → Int32} {n a c u r w c2 w2 s s1 s4 : Int32} (h : zPK f n a c u) (h33 : ¬ c.toInt = 33) (h40 : ¬ c.toInt = 40) (hs : zF (sSum (sB f n.toInt) n.toInt 6 u.toInt) r w) (hr : r.toInt = 1) (hp : zPK f n w c2 w2) (hc2 : ¬ (c2.toInt = 61 ∨ c2.toInt = 60 ∨ c2.toInt = 62)) (e1 : zEm fS s (eSum (sB f n.toInt) n.toInt 6 u.toInt) f1 s1) (e4 : zEm f1 s1 [((59 : Int32).toInt, 0)] f4 s4) (h0 : 0 ≤ s.toInt) : zEm fS s (eCl2 (sB f n.toInt) n.toInt a.toInt) f4 s4 := by
  rw [show (59 : Int32).toInt = 59 from by decide] at e4
  have g1 : ¬ (sB f n.toInt (sk (sB f n.toInt) n.toInt a.toInt) = 33 ∨ sB f n.toInt (sk (sB f n.toInt) n.toInt a.toInt) = 40) := by
    have a1 := zpk_is h (c := 33) (by decide)
    have a2 := zpk_is h (c := 40) (by decide)
    omega
  have g5 : ¬ eB2 (sB f n.toInt) n.toInt a.toInt = true := fun z => hc2 ((eB2_s h h33 h40 hs hr hp).mp z)
  have e : eCl2 (sB f n.toInt) n.toInt a.toInt = eSum (sB f n.toInt) n.toInt 6 u.toInt ++ [(59, 0)] := by
    unfold eCl2 eS2
    rw [if_neg g5, if_neg g1, if_neg g5, ← eSum_sk, h.1]
  rw [e]
  exact zEm_app e1 e4 h0
theorem eCl_em {f fS fS' : Nat → Int32} {n a r u r2 u2 s s' : Int32} (h : zTk f n a 121 r u) (hr : ¬ r.toInt = 0) (h2 : zTk f n u 58 r2 u2) (hr2 : ¬ r2.toInt = 0) (he : zEm fS s (eCl2 (sB f n.toInt) n.toInt u2.toInt) fS' s') : zEm fS s (eCl (sB f n.toInt) n.toInt a.toInt) fS' s' := by
  have e1 : sk (sB f n.toInt) n.toInt a.toInt + 1 = u.toInt := by
    rcases h with q | q
    · exact q.2.1.symm
    · exact absurd q.1 hr
  have e2 : sk (sB f n.toInt) n.toInt u.toInt + 1 = u2.toInt := by
    rcases h2 with q | q
    · exact q.2.1.symm
    · exact absurd q.1 hr2
  unfold eCl eAf
  rw [e1, e2]
  exact he
def zLe (f : Nat → Int32) (n : Int32) (fS1 : Nat → Int32) (s1 g p : Int32) : Prop := g.toInt = 1 → ∃ (fS : Nat → Int32) (pre : List (Int × Int)), zEm fS 0 pre fS1 s1 ∧ eLaw (sB f n.toInt) n.toInt = pre ++ eLw (sB f n.toInt) n.toInt (sk (sB f n.toInt) n.toInt p.toInt) ∧ (sCl (sB f n.toInt) n.toInt 0).1 = 1
theorem eLw_go {g : Int → Int} {n p : Int} (h1 : p < n) (h2 : oS (g p) = true) (h3 : (sCl g n (p + 1)).1 = 1) (h4 : p < sk g n (sCl g n (p + 1)).2) : eLw g n p = eCl g n (p + 1) ++ eLw g n (sk g n (sCl g n (p + 1)).2) := by
  rw [eLw, dif_pos ⟨h1, h2⟩, if_pos h3, dif_pos h4]
theorem eLw_end {g : Int → Int} {n p : Int} (h : ¬ (p < n ∧ oS (g p) = true)) : eLw g n p = [] := by
  rw [eLw, dif_neg h]
theorem zLe0 {f fS fS1 : Nat → Int32} {n r u s1 : Int32} (hF : zF (sCl (sB f n.toInt) n.toInt (0 : Int32).toInt) r u) (he : ¬ r.toInt = 0 → zEm fS 0 (eCl (sB f n.toInt) n.toInt (0 : Int32).toInt) fS1 s1) : zLe f n fS1 s1 r u := by
  intro hr
  have e := zF_1 hF hr
  have he := he (by omega)
  rw [show (0 : Int32).toInt = 0 from by decide] at e he
  refine ⟨fS, _, he, ?_, by rw [e]⟩
  unfold eLaw
  rw [e]
theorem zLeS {f fS1 fS2 : Nat → Int32} {n g p r u r2 u2 s1 s2 : Int32} (h : zLe f n fS1 s1 g p) (hg : g.toInt = 1) (ht : zTk f n p 59 r u) (hr : ¬ r.toInt = 0) (hF : zF (sCl (sB f n.toInt) n.toInt u.toInt) r2 u2) (hm : ¬ r2.toInt = 0 → u.toInt < u2.toInt) (he : ¬ r2.toInt = 0 → zEm fS1 s1 (eCl (sB f n.toInt) n.toInt u.toInt) fS2 s2) : zLe f n fS2 s2 r2 u2 := by
  intro hr2
  obtain ⟨fS, pre, e1, e2, e9⟩ := h hg
  have e := zF_1 hF hr2
  have k := sk_ge (sB f n.toInt) n.toInt u2.toInt
  have m := hm (by omega)
  rcases ht with q | q
  · refine ⟨fS, pre ++ eCl (sB f n.toInt) n.toInt u.toInt, zEm_app e1 (he (by omega)) (by decide), ?_, e9⟩
    have c59 : sB f n.toInt (sk (sB f n.toInt) n.toInt p.toInt) = 59 := q.2.2.1.trans (by decide)
    rw [e2, eLw_go (by omega) (oS_iff.mpr c59) (by rw [← q.2.1, e]) (by rw [← q.2.1, e]; show _ < sk (sB f n.toInt) n.toInt u2.toInt; omega), ← q.2.1, e, List.append_assoc]
  · exact absurd q.1 hr
theorem zLeE {f fS1 : Nat → Int32} {n g p s1 : Int32} (h : zLe f n fS1 s1 g p) (hg : g.toInt = 1) (hc : n.toInt ≤ p.toInt ∨ ¬ sB f n.toInt (sk (sB f n.toInt) n.toInt p.toInt) = 59) : (∃ fS : Nat → Int32, zEm fS 0 (eLaw (sB f n.toInt) n.toInt) fS1 s1) ∧ (sCl (sB f n.toInt) n.toInt 0).1 = 1 := by
  obtain ⟨fS, pre, e1, e2, e9⟩ := h hg
  have k := sk_ge (sB f n.toInt) n.toInt p.toInt
  refine ⟨⟨fS, ?_⟩, e9⟩
  rw [e2, eLw_end (fun z => ?_), List.append_nil]
  · exact e1
  · rcases hc with q | q
    · omega
    · exact q (oS_iff.mp z.2)
