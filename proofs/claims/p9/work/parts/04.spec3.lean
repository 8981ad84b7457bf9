/-! the law's reader of the class -/
def zF (x : Int × Int) (r u : Int32) : Prop := x = (r.toInt, u.toInt)
theorem zF0 {x : Int × Int} {u : Int32} (h : x = (0, u.toInt)) : zF x 0 u := by
  unfold zF
  rw [h, show (0 : Int32).toInt = 0 from by decide]
theorem zF1 {x : Int × Int} {u : Int32} (h : x = (1, u.toInt)) : zF x 1 u := by
  unfold zF
  rw [h, show (1 : Int32).toInt = 1 from by decide]
theorem zF_0 {x : Int × Int} {r u : Int32} (h : zF x r u) (hr : r.toInt = 0) : x = (0, u.toInt) := by rw [← hr]; exact h
theorem zF_1 {x : Int × Int} {r u : Int32} (h : zF x r u) (hr : r.toInt = 1) : x = (1, u.toInt) := by rw [← hr]; exact h
theorem zFm {x : Int → Int × Int} (hm : ∀ a, (x a).1 = 1 → a < (x a).2) {a : Int} {u : Int32} (h : zF (x a) 1 u) : a < u.toInt := by
  have e := zF_1 h (by decide)
  have := hm a (by rw [e])
  rw [e] at this
  exact this
theorem zpk_is {f : Nat → Int32} {n a r u : Int32} (h : zPK f n a r u) {c : Int} (hc : 1 ≤ c) : sB f n.toInt (sk (sB f n.toInt) n.toInt a.toInt) = c ↔ r.toInt = c := by
  rw [h.1]
  rcases h.2 with q | q <;> omega
theorem zpk_sk {f : Nat → Int32} {n a r u : Int32} (h : zPK f n a r u) : sk (sB f n.toInt) n.toInt u.toInt = u.toInt := by
  rw [← h.1]
  exact sk_id _ _ _
def zIs (b : Bool) (r : Int32) : Prop := (b = true ∧ r.toInt = 1) ∨ (b = false ∧ r.toInt = 0)
theorem zIsT {b : Bool} (h : b = true) : zIs b 1 := Or.inl ⟨h, by decide⟩
theorem zIsN {b : Bool} (h : ¬ b = true) : zIs b 0 := Or.inr ⟨by cases b <;> simp_all, by decide⟩
def oQ (c : Int) : Bool := decide (c = 61 ∨ c = 60 ∨ c = 62)
theorem oQ_iff {c : Int} : oQ c = true ↔ c = 61 ∨ c = 60 ∨ c = 62 := by unfold oQ; exact decide_eq_true_iff
theorem zIs_t {b : Bool} {r : Int32} (h : zIs b r) (hr : ¬ r.toInt = 0) : b = true := by
  rcases h with h | h
  · exact h.1
  · exact absurd h.2 hr
theorem zIs_f {b : Bool} {r : Int32} (h : zIs b r) (hr : r.toInt = 0) : ¬ b = true := by
  rcases h with h | h
  · rw [h.2] at hr
    exact absurd hr (by decide)
  · rw [h.1]
    decide
theorem fa_top {f : Nat → Int32} {n a c u : Int32} (h : zPK f n a c u) (hc : c.toInt = 91) : sAtm (sB f n.toInt) n.toInt 0 a.toInt = (0, u.toInt) := by
  show sAt _ _ true sNo _ = _
  unfold sAt
  rw [if_pos ((zpk_is h (by decide)).mpr hc), if_pos rfl, h.1]
theorem fa_sb {f : Nat → Int32} {n a c u q r w : Int32} {K : Nat} (h : zPK f n a c u) (hc : c.toInt = 91) (hs : zF (sSum (sB f n.toInt) n.toInt K q.toInt) r w) (hq : q.toInt = u.toInt + 1) (hr : r.toInt = 0) : sAtm (sB f n.toInt) n.toInt (K + 1) a.toInt = (0, w.toInt) := by
  have e := zF_0 hs hr
  show sAt _ _ false (sSum _ _ K) _ = _
  unfold sAt
  rw [if_pos ((zpk_is h (by decide)).mpr hc), if_neg (by decide), h.1, ← hq, e, if_neg zne1]
theorem fa_nb {f : Nat → Int32} {n a c u q r w c2 w2 : Int32} {K : Nat} (h : zPK f n a c u) (hc : c.toInt = 91) (hs : zF (sSum (sB f n.toInt) n.toInt K q.toInt) r w) (hq : q.toInt = u.toInt + 1) (hr : r.toInt = 1) (h2 : zPK f n w c2 w2) (hc2 : ¬ c2.toInt = 93) : sAtm (sB f n.toInt) n.toInt (K + 1) a.toInt = (0, w2.toInt) := by
  have e := zF_1 hs hr
  show sAt _ _ false (sSum _ _ K) _ = _
  unfold sAt
  rw [if_pos ((zpk_is h (by decide)).mpr hc), if_neg (by decide), h.1, ← hq, e, if_pos rfl, if_neg (fun z => hc2 ((zpk_is h2 (by decide)).mp z))]
  show ((0 : Int), sk (sB f n.toInt) n.toInt w.toInt) = _
  rw [h2.1]
theorem fa_yb {f : Nat → Int32} {n a c u q r w c2 w2 w3 : Int32} {K : Nat} (h : zPK f n a c u) (hc : c.toInt = 91) (hs : zF (sSum (sB f n.toInt) n.toInt K q.toInt) r w) (hq : q.toInt = u.toInt + 1) (hr : r.toInt = 1) (h2 : zPK f n w c2 w2) (hc2 : c2.toInt = 93) (h3 : w3.toInt = w2.toInt + 1) : sAtm (sB f n.toInt) n.toInt (K + 1) a.toInt = (1, w3.toInt) := by
  have e := zF_1 hs hr
  show sAt _ _ false (sSum _ _ K) _ = _
  unfold sAt
  rw [if_pos ((zpk_is h (by decide)).mpr hc), if_neg (by decide), h.1, ← hq, e, if_pos rfl, if_pos ((zpk_is h2 (by decide)).mpr hc2)]
  show ((1 : Int), sk (sB f n.toInt) n.toInt w.toInt + 1) = _
  rw [h2.1, h3]
theorem sAtm_let {g : Int → Int} {n a : Int} {K : Nat} (h91 : ¬ g (sk g n a) = 91) (hl : g (sk g n a) = 102 ∨ g (sk g n a) = 119 ∨ g (sk g n a) = 121 ∨ g (sk g n a) = 115 ∨ g (sk g n a) = 97 ∨ g (sk g n a) = 109) : sAtm g n K a = (1, sk g n a + 1) := by
  cases K
  · show sAt _ _ true sNo _ = _
    unfold sAt
    rw [if_neg h91, if_pos hl]
  · show sAt _ _ false _ _ = _
    unfold sAt
    rw [if_neg h91, if_pos hl]
theorem sAtm_num {g : Int → Int} {n a : Int} {K : Nat} (h91 : ¬ g (sk g n a) = 91) (hl : ¬ (g (sk g n a) = 102 ∨ g (sk g n a) = 119 ∨ g (sk g n a) = 121 ∨ g (sk g n a) = 115 ∨ g (sk g n a) = 97 ∨ g (sk g n a) = 109)) : sAtm g n K a = sNum g (sk g n a) := by
  cases K
  · show sAt _ _ true sNo _ = _
    unfold sAt
    rw [if_neg h91, if_neg hl]
  · show sAt _ _ false _ _ = _
    unfold sAt
    rw [if_neg h91, if_neg hl]
theorem zlet {i v : Int32} (x : v = zTl 0 i.toNatClampNeg) (h0 : 0 ≤ i.toInt) (h : i.toInt < 6) : v.toInt = 102 ∨ v.toInt = 119 ∨ v.toInt = 121 ∨ v.toInt = 115 ∨ v.toInt = 97 ∨ v.toInt = 109 := by
  have hk : i.toNatClampNeg < 6 := by show i.toInt.toNat < 6; omega
  rw [x]
  generalize i.toNatClampNeg = k at hk
  match k, hk with
  | 0, _ => decide
  | 1, _ => decide
  | 2, _ => decide
  | 3, _ => decide
  | 4, _ => decide
  | 5, _ => decide
  | k + 6, h => exact absurd h (by omega)
/-- none of the first i letters -/
def zNl (i c : Int32) : Prop := ∀ j : Nat, (j : Int) < i.toInt → ¬ c.toInt = (zTl 0 j).toInt
theorem zNl0 {c : Int32} : zNl 0 c := fun j h => by
  rw [show (0 : Int32).toInt = 0 from by decide] at h
  omega
theorem zNlS {i i' c v : Int32} (h : zNl i c) (x : v = zTl 0 i.toNatClampNeg) (hc : ¬ c.toInt = v.toInt) (h0 : 0 ≤ i.toInt) (e : i'.toInt = i.toInt + 1) : zNl i' c := fun j hj => by
  by_cases q : (j : Int) < i.toInt
  · exact h j q
  · have : j = i.toNatClampNeg := by show j = i.toInt.toNat; omega
    rw [this, ← x]
    exact hc
theorem zNl6 {i c : Int32} (h : zNl i c) (hi : 6 ≤ i.toInt) : ¬ (c.toInt = 102 ∨ c.toInt = 119 ∨ c.toInt = 121 ∨ c.toInt = 115 ∨ c.toInt = 97 ∨ c.toInt = 109) := by
  have h0 : ¬ c.toInt = 102 := h 0 (by omega)
  have h1 : ¬ c.toInt = 119 := h 1 (by omega)
  have h2 : ¬ c.toInt = 121 := h 2 (by omega)
  have h3 : ¬ c.toInt = 115 := h 3 (by omega)
  have h4 : ¬ c.toInt = 97 := h 4 (by omega)
  have h5 : ¬ c.toInt = 109 := h 5 (by omega)
  omega
theorem fa_let {f : Nat → Int32} {n a c u v i w : Int32} {K : Nat} (h : zPK f n a c u) (hc : ¬ c.toInt = 91) (x : v = zTl 0 i.toNatClampNeg) (h0 : 0 ≤ i.toInt) (h6 : i.toInt < 6) (hv : c.toInt = v.toInt) (hw : w.toInt = u.toInt + 1) : sAtm (sB f n.toInt) n.toInt K a.toInt = (1, w.toInt) := by
  have l := zlet x h0 h6
  rw [sAtm_let (fun z => hc ((zpk_is h (by decide)).mp z)) ?_, h.1, hw]
  have e1 := zpk_is h (c := v.toInt) (by omega)
  have e2 := e1.mpr hv
  omega
theorem fa_num {f : Nat → Int32} {n a c u i r w : Int32} {K : Nat} (h : zPK f n a c u) (hc : ¬ c.toInt = 91) (hl : zNl i c) (hi : 6 ≤ i.toInt) (hn : zN4 f n u r w) : sAtm (sB f n.toInt) n.toInt K a.toInt = sNum (sB f n.toInt) u.toInt := by
  have l := zNl6 hl hi
  have e : sB f n.toInt (sk (sB f n.toInt) n.toInt a.toInt) = c.toInt ∨ sB f n.toInt (sk (sB f n.toInt) n.toInt a.toInt) = -1 := by
    rw [h.1]
    rcases h.2 with q | q
    · exact Or.inl q.1
    · exact Or.inr q.1
  rw [sAtm_num (fun z => hc ((zpk_is h (by decide)).mp z)) (by omega), h.1]
theorem fa_n0 {f : Nat → Int32} {n a c u i r w : Int32} {K : Nat} (h : zPK f n a c u) (hc : ¬ c.toInt = 91) (hl : zNl i c) (hi : 6 ≤ i.toInt) (hn : zN4 f n u r w) (hr : r.toInt = -1) : sAtm (sB f n.toInt) n.toInt K a.toInt = (0, w.toInt) := by
  rw [fa_num h hc hl hi hn]
  rcases hn with q | q
  · exact q.2
  · omega
theorem fa_n1 {f : Nat → Int32} {n a c u i r w : Int32} {K : Nat} (h : zPK f n a c u) (hc : ¬ c.toInt = 91) (hl : zNl i c) (hi : 6 ≤ i.toInt) (hn : zN4 f n u r w) (hr : ¬ r.toInt = -1) : sAtm (sB f n.toInt) n.toInt K a.toInt = (1, w.toInt) := by
  rw [fa_num h hc hl hi hn]
  rcases hn with q | q
  · omega
  · exact q.2
/-- the sign that a place holds -/
def zSg (f : Nat → Int32) (n u r : Int32) : Prop := (sB f n.toInt u.toInt = r.toInt ∧ 1 ≤ r.toInt ∧ u.toInt < n.toInt) ∨ (sB f n.toInt u.toInt = -1 ∧ r.toInt = 0 ∧ n.toInt ≤ u.toInt)
/-- pieces: the first is wrong; the loop begins, goes on, ends, a piece is wrong -/
theorem fl_0 {f : Nat → Int32} {n a r u : Int32} {op : Int → Bool} {F : Int → Int × Int} (h : zF (F a.toInt) r u) (hr : r.toInt = 0) : sTm (sB f n.toInt) n.toInt op F a.toInt = (0, u.toInt) := by
  have e := zF_0 h hr
  unfold sTm
  rw [e, if_neg zne1]
theorem fl_b {f : Nat → Int32} {n a r u c w : Int32} {op : Int → Bool} {F : Int → Int × Int} (h : zF (F a.toInt) r u) (hr : r.toInt = 1) (hp : zPK f n u c w) : sTm (sB f n.toInt) n.toInt op F a.toInt = sLp (sB f n.toInt) n.toInt op F w.toInt := by
  have e := zF_1 h hr
  unfold sTm
  rw [e, if_pos rfl]
  show sLp _ _ _ _ (sk (sB f n.toInt) n.toInt u.toInt) = _
  rw [hp.1]
theorem fl_s {f : Nat → Int32} {n p s q r u c w : Int32} {op : Int → Bool} {F : Int → Int × Int} {X : Int × Int} (h : X = sLp (sB f n.toInt) n.toInt op F p.toInt) (hs : zSg f n p s) (ho : op s.toInt = true) (h1 : op 0 = false) (hq : q.toInt = p.toInt + 1) (hF : zF (F q.toInt) r u) (hr : r.toInt = 1) (hm : q.toInt < u.toInt) (hp : zPK f n u c w) : X = sLp (sB f n.toInt) n.toInt op F w.toInt := by
  have e := zF_1 hF hr
  have h3 := sk_ge (sB f n.toInt) n.toInt u.toInt
  rcases hs with z | z
  · rw [h, sLp_go z.2.2 (by rw [z.1]; exact ho) (by rw [← hq, e]) (by rw [← hq, e]; show p.toInt < sk _ _ u.toInt; omega), ← hq, e]
    show sLp _ _ _ _ (sk (sB f n.toInt) n.toInt u.toInt) = _
    rw [hp.1]
  · rw [z.2.1, h1] at ho
    exact absurd ho (by decide)
theorem fl_x {f : Nat → Int32} {n p s q r u : Int32} {op : Int → Bool} {F : Int → Int × Int} {X : Int × Int} (h : X = sLp (sB f n.toInt) n.toInt op F p.toInt) (hs : zSg f n p s) (ho : op s.toInt = true) (h1 : op 0 = false) (hq : q.toInt = p.toInt + 1) (hF : zF (F q.toInt) r u) (hr : r.toInt = 0) : X = (0, u.toInt) := by
  have e := zF_0 hF hr
  rcases hs with z | z
  · rw [h, sLp_bad z.2.2 (by rw [z.1]; exact ho) (by rw [← hq, e]; exact zne1), ← hq, e]
  · rw [z.2.1, h1] at ho
    exact absurd ho (by decide)
theorem fl_e {f : Nat → Int32} {n p : Int32} {op : Int → Bool} {F : Int → Int × Int} {X : Int × Int} (h : X = sLp (sB f n.toInt) n.toInt op F p.toInt) (hc : n.toInt ≤ p.toInt) : X = (1, p.toInt) := by
  rw [h]
  exact sLp_end (fun z => by omega)
theorem fl_n {f : Nat → Int32} {n p s : Int32} {op : Int → Bool} {F : Int → Int × Int} {X : Int × Int} (h : X = sLp (sB f n.toInt) n.toInt op F p.toInt) (hs : zSg f n p s) (ho : ¬ op s.toInt = true) : X = (1, p.toInt) := by
  rw [h]
  refine sLp_end (fun z => ?_)
  rcases hs with q | q
  · rw [q.1] at z
    exact ho z.2
  · have := z.1
    omega
theorem sSum_tm {g : Int → Int} {n : Int} {K : Nat} {a : Int} {x : Int × Int} (h : sTm g n oA (sAtm g n K) a = x) : sSum g n K a = x := by rw [sSum_eq]; exact h
theorem sUn_mono (g : Int → Int) (n : Int) : ∀ (k : Nat) (a : Int), (sUn g n k a).1 = 1 → a < (sUn g n k a).2 := by
  have key : ∀ (top : Bool) (s u : Int → Int × Int), (∀ a, (s a).1 = 1 → a < (s a).2) → (top = false → ∀ a, (u a).1 = 1 → a < (u a).2) → ∀ a, (sUn1 g n top s u a).1 = 1 → a < (sUn1 g n top s u a).2 := by
    intro top s u hs hu a h
    have h0 := sk_ge g n a
    unfold sUn1 at h ⊢
    by_cases c1 : g (sk g n a) = 33
    · rw [if_pos c1] at h ⊢
      by_cases t : top = true
      · rw [if_pos t] at h
        exact absurd h zne1
      · rw [if_neg t] at h ⊢
        have := hu (by cases top <;> simp_all) _ h
        omega
    · rw [if_neg c1] at h ⊢
      by_cases c2 : g (sk g n a) = 40
      · rw [if_pos c2] at h ⊢
        by_cases t : top = true
        · rw [if_pos t] at h
          exact absurd h zne1
        · rw [if_neg t] at h ⊢
          have hu := hu (by cases top <;> simp_all)
          generalize hx : sTm g n oC u (sk g n a + 1) = x at h ⊢
          unfold sEnd at h ⊢
          by_cases q : x.1 = 1
          · rw [if_pos q] at h ⊢
            by_cases z : g (sk g n x.2) = 41
            · rw [if_pos z]
              have m := sTm_mono (g := g) (n := n) (op := oC) hu (sk g n a + 1) (by rw [hx]; exact q)
              rw [hx] at m
              have := sk_ge g n x.2
              show a < sk g n x.2 + 1
              omega
            · rw [if_neg z] at h
              exact absurd h zne1
          · rw [if_neg q] at h
            exact absurd h zne1
      · rw [if_neg c2] at h ⊢
        by_cases q : (s a).1 = 1
        · rw [if_pos q] at h ⊢
          have m1 := hs _ q
          unfold sCmp at h ⊢
          have h2 := sk_ge g n (s a).2
          by_cases z : g (sk g n (s a).2) = 61 ∨ g (sk g n (s a).2) = 60 ∨ g (sk g n (s a).2) = 62
          · rw [if_pos z] at h ⊢
            have := hs _ h
            omega
          · rw [if_neg z] at h
            exact absurd h zne1
        · rw [if_neg q] at h
          exact absurd h zne1
  intro k
  induction k with
  | zero => exact key true _ _ (sSum_mono g n 0) (fun z => absurd z (by decide))
  | succ k ih => exact key false _ _ (sSum_mono g n (k + 1)) (fun _ => ih)
theorem fu_t {f : Nat → Int32} {n a c u : Int32} (h : zPK f n a c u) (hc : c.toInt = 33 ∨ c.toInt = 40) : sUn (sB f n.toInt) n.toInt 0 a.toInt = (0, u.toInt) := by
  show sUn1 _ _ true _ _ _ = _
  unfold sUn1
  rcases hc with hc | hc
  · rw [if_pos ((zpk_is h (by decide)).mpr hc), if_pos rfl, h.1]
  · rw [if_neg (fun z => by have := (zpk_is h (by decide)).mp z; omega), if_pos ((zpk_is h (by decide)).mpr hc), if_pos rfl, h.1]
theorem fu_not {f : Nat → Int32} {n a c u q r w : Int32} {K : Nat} (h : zPK f n a c u) (hc : c.toInt = 33) (hq : q.toInt = u.toInt + 1) (hs : zF (sUn (sB f n.toInt) n.toInt K q.toInt) r w) : sUn (sB f n.toInt) n.toInt (K + 1) a.toInt = (r.toInt, w.toInt) := by
  show sUn1 _ _ false _ _ _ = _
  unfold sUn1
  rw [if_pos ((zpk_is h (by decide)).mpr hc), if_neg (by decide), h.1, ← hq]
  exact hs
theorem fu_par {f : Nat → Int32} {n a c u q : Int32} {K : Nat} (h : zPK f n a c u) (hc : c.toInt = 40) (hq : q.toInt = u.toInt + 1) : sUn (sB f n.toInt) n.toInt (K + 1) a.toInt = sEnd (sB f n.toInt) n.toInt 41 (sCon (sB f n.toInt) n.toInt K q.toInt) := by
  show sUn1 _ _ false _ _ _ = _
  unfold sUn1
  rw [if_neg (fun z => by have := (zpk_is h (by decide)).mp z; omega), if_pos ((zpk_is h (by decide)).mpr hc), if_neg (by decide), h.1, ← hq]
  rfl
theorem fe_0 {f : Nat → Int32} {n r w : Int32} {k : Int} {x : Int × Int} (hx : zF x r w) (hr : r.toInt = 0) : sEnd (sB f n.toInt) n.toInt k x = (0, w.toInt) := by
  rw [zF_0 hx hr]
  unfold sEnd
  rw [if_neg zne1]
theorem fe_n {f : Nat → Int32} {n r w c r2 w2 : Int32} {x : Int × Int} (hx : zF x r w) (hr : r.toInt = 1) (ht : zTk f n w c r2 w2) (h2 : r2.toInt = 0) : sEnd (sB f n.toInt) n.toInt c.toInt x = (0, w2.toInt) := by
  rw [zF_1 hx hr]
  unfold sEnd
  rw [if_pos rfl]
  show (if sB f n.toInt (sk (sB f n.toInt) n.toInt w.toInt) = c.toInt then ((1 : Int), sk (sB f n.toInt) n.toInt w.toInt + 1) else (0, sk (sB f n.toInt) n.toInt w.toInt)) = _
  rcases ht with q | q
  · omega
  · rw [if_neg q.2.2, q.2.1]
theorem fe_y {f : Nat → Int32} {n r w c r2 w2 : Int32} {x : Int × Int} (hx : zF x r w) (hr : r.toInt = 1) (ht : zTk f n w c r2 w2) (h2 : ¬ r2.toInt = 0) : sEnd (sB f n.toInt) n.toInt c.toInt x = (1, w2.toInt) := by
  rw [zF_1 hx hr]
  unfold sEnd
  rw [if_pos rfl]
  show (if sB f n.toInt (sk (sB f n.toInt) n.toInt w.toInt) = c.toInt then ((1 : Int), sk (sB f n.toInt) n.toInt w.toInt + 1) else (0, sk (sB f n.toInt) n.toInt w.toInt)) = _
  rcases ht with q | q
  · rw [if_pos q.2.2.1, q.2.1]
  · omega
theorem fu_sum {g : Int → Int} {n a : Int} {K : Nat} (h1 : ¬ g (sk g n a) = 33) (h2 : ¬ g (sk g n a) = 40) : sUn g n K a = (if (sSum g n K a).1 = 1 then sCmp g n (sSum g n K) (sSum g n K a).2 else (0, (sSum g n K a).2)) := by
  cases K
  · show sUn1 _ _ true _ _ _ = _
    unfold sUn1
    rw [if_neg h1, if_neg h2]
  · show sUn1 _ _ false _ _ _ = _
    unfold sUn1
    rw [if_neg h1, if_neg h2]
theorem fu_s {f : Nat → Int32} {n a c u r w : Int32} {K : Nat} (h : zPK f n a c u) (h1 : ¬ c.toInt = 33) (h2 : ¬ c.toInt = 40) (hs : zF (sSum (sB f n.toInt) n.toInt K u.toInt) r w) : sUn (sB f n.toInt) n.toInt K a.toInt = (if r.toInt = 1 then sCmp (sB f n.toInt) n.toInt (sSum (sB f n.toInt) n.toInt K) w.toInt else (0, w.toInt)) := by
  rw [fu_sum (fun z => h1 ((zpk_is h (by decide)).mp z)) (fun z => h2 ((zpk_is h (by decide)).mp z)), ← sSum_sk, h.1]
  unfold zF at hs
  rw [hs]
theorem fu_s0 {f : Nat → Int32} {n a c u r w : Int32} {K : Nat} (h : zPK f n a c u) (h1 : ¬ c.toInt = 33) (h2 : ¬ c.toInt = 40) (hs : zF (sSum (sB f n.toInt) n.toInt K u.toInt) r w) (hr : r.toInt = 0) : sUn (sB f n.toInt) n.toInt K a.toInt = (0, w.toInt) := by
  rw [fu_s h h1 h2 hs, if_neg (by omega)]
theorem fu_s1 {f : Nat → Int32} {n a c u r w : Int32} {K : Nat} {x : Int × Int} (h : zPK f n a c u) (h1 : ¬ c.toInt = 33) (h2 : ¬ c.toInt = 40) (hs : zF (sSum (sB f n.toInt) n.toInt K u.toInt) r w) (hr : r.toInt = 1) (hx : sCmp (sB f n.toInt) n.toInt (sSum (sB f n.toInt) n.toInt K) w.toInt = x) : sUn (sB f n.toInt) n.toInt K a.toInt = x := by
  rw [fu_s h h1 h2 hs, if_pos hr]
  exact hx
theorem fq_n {f : Nat → Int32} {n a c u r : Int32} {s : Int → Int × Int} (h : zPK f n a c u) (hi : zIs (oQ c.toInt) r) (hr : r.toInt = 0) : sCmp (sB f n.toInt) n.toInt s a.toInt = (0, u.toInt) := by
  have h1 := zIs_f hi hr
  rw [oQ_iff] at h1
  unfold sCmp
  rw [h.1]
  refine if_neg (fun z => ?_)
  rcases h.2 with q | q <;> omega
theorem fq_y {f : Nat → Int32} {n a c u r q r2 w : Int32} {s : Int → Int × Int} (h : zPK f n a c u) (hi : zIs (oQ c.toInt) r) (hr : ¬ r.toInt = 0) (hq : q.toInt = u.toInt + 1) (hs : zF (s q.toInt) r2 w) : sCmp (sB f n.toInt) n.toInt s a.toInt = (r2.toInt, w.toInt) := by
  have h1 := oQ_iff.mp (zIs_t hi hr)
  unfold sCmp
  rw [h.1, ← hq, if_pos (by rcases h.2 with q | q <;> omega)]
  exact hs
theorem fq_sk {f : Nat → Int32} {n a c u : Int32} {s : Int → Int × Int} (h : zPK f n a c u) : sCmp (sB f n.toInt) n.toInt s u.toInt = sCmp (sB f n.toInt) n.toInt s a.toInt := by
  unfold sCmp
  rw [← h.1, sk_id]
theorem fg_0 {f : Nat → Int32} {n a r u : Int32} (h : zF (sCmp (sB f n.toInt) n.toInt (sSum (sB f n.toInt) n.toInt 6) a.toInt) r u) (hr : r.toInt = 0) : sGo (sB f n.toInt) n.toInt a.toInt = (0, u.toInt) := by
  have e := zF_0 h hr
  unfold sGo
  rw [e, if_neg zne1]
theorem fg_b {f : Nat → Int32} {n a r u c w : Int32} (h : zF (sCmp (sB f n.toInt) n.toInt (sSum (sB f n.toInt) n.toInt 6) a.toInt) r u) (hr : r.toInt = 1) (hp : zPK f n u c w) : sGo (sB f n.toInt) n.toInt a.toInt = sLp (sB f n.toInt) n.toInt oC (sUn (sB f n.toInt) n.toInt 6) w.toInt := by
  have e := zF_1 h hr
  unfold sGo
  rw [e, if_pos rfl]
  show sLp _ _ _ _ (sk (sB f n.toInt) n.toInt u.toInt) = _
  rw [hp.1]
theorem sGo_sk {f : Nat → Int32} {n a c u : Int32} (h : zPK f n a c u) : sGo (sB f n.toInt) n.toInt u.toInt = sGo (sB f n.toInt) n.toInt a.toInt := by
  unfold sGo
  rw [fq_sk h]
theorem sUn_sk (g : Int → Int) (n : Int) (k : Nat) (a : Int) : sUn g n k (sk g n a) = sUn g n k a := by
  cases k
  · show sUn1 _ _ true _ _ _ = sUn1 _ _ true _ _ _
    unfold sUn1
    rw [sk_id, sSum_sk]
  · show sUn1 _ _ false _ _ _ = sUn1 _ _ false _ _ _
    unfold sUn1
    rw [sk_id, sSum_sk]
theorem sCon_sk (g : Int → Int) (n : Int) (k : Nat) (a : Int) : sCon g n k (sk g n a) = sCon g n k a := sTm_sk (sUn_sk g n k) a
/-! a clause -/
theorem fc_y {f : Nat → Int32} {n a r u : Int32} (h : zTk f n a 121 r u) (hr : r.toInt = 0) : sCl (sB f n.toInt) n.toInt a.toInt = (0, u.toInt) := by
  unfold sCl
  rcases h with q | q
  · omega
  · rw [if_neg (fun z => q.2.2 (z.trans (by decide))), q.2.1]
theorem fc_1 {f : Nat → Int32} {n a r u : Int32} (h : zTk f n a 121 r u) (hr : ¬ r.toInt = 0) : sCl (sB f n.toInt) n.toInt a.toInt = (if sB f n.toInt (sk (sB f n.toInt) n.toInt u.toInt) = 58 then sCl2 (sB f n.toInt) n.toInt (sk (sB f n.toInt) n.toInt u.toInt + 1) else (0, sk (sB f n.toInt) n.toInt u.toInt)) := by
  unfold sCl
  rcases h with q | q
  · rw [if_pos (q.2.2.1.trans (by decide)), ← q.2.1]
  · omega
theorem fc_c {f : Nat → Int32} {n a r u r2 u2 : Int32} (h : zTk f n a 121 r u) (hr : ¬ r.toInt = 0) (h2 : zTk f n u 58 r2 u2) (hr2 : r2.toInt = 0) : sCl (sB f n.toInt) n.toInt a.toInt = (0, u2.toInt) := by
  rw [fc_1 h hr]
  rcases h2 with q | q
  · omega
  · rw [if_neg (fun z => q.2.2 (z.trans (by decide))), q.2.1]
theorem fc_2 {f : Nat → Int32} {n a r u r2 u2 : Int32} {x : Int × Int} (h : zTk f n a 121 r u) (hr : ¬ r.toInt = 0) (h2 : zTk f n u 58 r2 u2) (hr2 : ¬ r2.toInt = 0) (hx : sCl2 (sB f n.toInt) n.toInt u2.toInt = x) : sCl (sB f n.toInt) n.toInt a.toInt = x := by
  rw [fc_1 h hr]
  rcases h2 with q | q
  · rw [if_pos (q.2.2.1.trans (by decide)), ← q.2.1]
    exact hx
  · omega
theorem fc_t {f : Nat → Int32} {n a c u r w : Int32} (h : zPK f n a c u) (hc : c.toInt = 33 ∨ c.toInt = 40) (hs : zF (sCon (sB f n.toInt) n.toInt 6 u.toInt) r w) : sCl2 (sB f n.toInt) n.toInt a.toInt = sQm (sB f n.toInt) n.toInt (r.toInt, w.toInt) := by
  unfold sCl2
  unfold zF at hs
  rw [if_pos (hc.elim (fun z => Or.inl ((zpk_is h (by decide)).mpr z)) (fun z => Or.inr ((zpk_is h (by decide)).mpr z))), ← sCon_sk, h.1, hs]
theorem fc_s {f : Nat → Int32} {n a c u r w : Int32} (h : zPK f n a c u) (h1 : ¬ c.toInt = 33) (h2 : ¬ c.toInt = 40) (hs : zF (sSum (sB f n.toInt) n.toInt 6 u.toInt) r w) : sCl2 (sB f n.toInt) n.toInt a.toInt = (if r.toInt = 1 then (if sB f n.toInt (sk (sB f n.toInt) n.toInt w.toInt) = 61 ∨ sB f n.toInt (sk (sB f n.toInt) n.toInt w.toInt) = 60 ∨ sB f n.toInt (sk (sB f n.toInt) n.toInt w.toInt) = 62 then sQm (sB f n.toInt) n.toInt (sGo (sB f n.toInt) n.toInt w.toInt) else (1, sk (sB f n.toInt) n.toInt w.toInt)) else (0, w.toInt)) := by
  unfold sCl2
  unfold zF at hs
  rw [if_neg (fun z => z.elim (fun z => h1 ((zpk_is h (by decide)).mp z)) (fun z => h2 ((zpk_is h (by decide)).mp z))), ← sSum_sk, h.1, hs]
theorem fc_s0 {f : Nat → Int32} {n a c u r w : Int32} (h : zPK f n a c u) (h1 : ¬ c.toInt = 33) (h2 : ¬ c.toInt = 40) (hs : zF (sSum (sB f n.toInt) n.toInt 6 u.toInt) r w) (hr : r.toInt = 0) : sCl2 (sB f n.toInt) n.toInt a.toInt = (0, w.toInt) := by
  rw [fc_s h h1 h2 hs, if_neg (by omega)]
theorem fc_s1 {f : Nat → Int32} {n a c u r w c2 w2 i : Int32} (h : zPK f n a c u) (h1 : ¬ c.toInt = 33) (h2 : ¬ c.toInt = 40) (hs : zF (sSum (sB f n.toInt) n.toInt 6 u.toInt) r w) (hr : r.toInt = 1) (hp : zPK f n w c2 w2) (hi : zIs (oQ c2.toInt) i) (hi0 : i.toInt = 0) : sCl2 (sB f n.toInt) n.toInt a.toInt = (1, w2.toInt) := by
  have q1 := zIs_f hi hi0
  rw [oQ_iff] at q1
  rw [fc_s h h1 h2 hs, if_pos hr, hp.1, if_neg (fun z => by rcases hp.2 with q | q <;> omega)]
theorem fc_s2 {f : Nat → Int32} {n a c u r w c2 w2 i r3 w3 : Int32} (h : zPK f n a c u) (h1 : ¬ c.toInt = 33) (h2 : ¬ c.toInt = 40) (hs : zF (sSum (sB f n.toInt) n.toInt 6 u.toInt) r w) (hr : r.toInt = 1) (hp : zPK f n w c2 w2) (hi : zIs (oQ c2.toInt) i) (hi0 : ¬ i.toInt = 0) (hg : zF (sGo (sB f n.toInt) n.toInt w2.toInt) r3 w3) : sCl2 (sB f n.toInt) n.toInt a.toInt = sQm (sB f n.toInt) n.toInt (r3.toInt, w3.toInt) := by
  have q1 := oQ_iff.mp (zIs_t hi hi0)
  unfold zF at hg
  rw [fc_s h h1 h2 hs, if_pos hr, hp.1, if_pos (by rcases hp.2 with q | q <;> omega), ← sGo_sk hp, hg]
theorem fm_0 {f : Nat → Int32} {n r w : Int32} {X : Int × Int} (h : X = sQm (sB f n.toInt) n.toInt (r.toInt, w.toInt)) (hr : r.toInt = 0) : X = (0, w.toInt) := by
  rw [h, hr]
  unfold sQm
  rw [if_neg zne1]
theorem fm_n {f : Nat → Int32} {n r w r2 w2 : Int32} {X : Int × Int} (h : X = sQm (sB f n.toInt) n.toInt (r.toInt, w.toInt)) (hr : r.toInt = 1) (ht : zTk f n w 63 r2 w2) (h2 : r2.toInt = 0) : X = (0, w2.toInt) := by
  rw [h, hr]
  unfold sQm
  rw [if_pos rfl]
  show (if sB f n.toInt (sk (sB f n.toInt) n.toInt w.toInt) = 63 then sSum _ _ 6 (sk (sB f n.toInt) n.toInt w.toInt + 1) else (0, sk (sB f n.toInt) n.toInt w.toInt)) = _
  rcases ht with q | q
  · omega
  · rw [if_neg (fun z => q.2.2 (z.trans (by decide))), q.2.1]
theorem fm_y {f : Nat → Int32} {n r w r2 w2 r3 w3 : Int32} {X : Int × Int} (h : X = sQm (sB f n.toInt) n.toInt (r.toInt, w.toInt)) (hr : r.toInt = 1) (ht : zTk f n w 63 r2 w2) (h2 : ¬ r2.toInt = 0) (hs : zF (sSum (sB f n.toInt) n.toInt 6 w2.toInt) r3 w3) : X = (r3.toInt, w3.toInt) := by
  rw [h, hr]
  unfold sQm
  rw [if_pos rfl]
  show (if sB f n.toInt (sk (sB f n.toInt) n.toInt w.toInt) = 63 then sSum _ _ 6 (sk (sB f n.toInt) n.toInt w.toInt + 1) else (0, sk (sB f n.toInt) n.toInt w.toInt)) = _
  rcases ht with q | q
  · rw [if_pos (q.2.2.1.trans (by decide)), ← q.2.1]
    exact hs
  · omega
theorem zF_r0 {x : Int × Int} {r u : Int32} (h : x = (r.toInt, u.toInt)) (hr : r.toInt = 0) : zF x 0 u := zF0 (by rw [h, hr])
theorem zF_r1 {x : Int × Int} {r u : Int32} (h : x = (r.toInt, u.toInt)) (hr : r.toInt = 1) : zF x 1 u := zF1 (by rw [h, hr])
theorem sCmp_mono {g : Int → Int} {n : Int} {s : Int → Int × Int} (hs : ∀ a, (s a).1 = 1 → a < (s a).2) (a : Int) (h : (sCmp g n s a).1 = 1) : a < (sCmp g n s a).2 := by
  have h0 := sk_ge g n a
  unfold sCmp at h ⊢
  by_cases z : g (sk g n a) = 61 ∨ g (sk g n a) = 60 ∨ g (sk g n a) = 62
  · rw [if_pos z] at h ⊢
    have := hs _ h
    omega
  · rw [if_neg z] at h
    exact absurd h zne1
theorem sCon_mono (g : Int → Int) (n : Int) (k : Nat) (a : Int) (h : (sCon g n k a).1 = 1) : a < (sCon g n k a).2 := sTm_mono (sUn_mono g n k) a h
theorem sGo_mono (g : Int → Int) (n : Int) (a : Int) (h : (sGo g n a).1 = 1) : a < (sGo g n a).2 := by
  unfold sGo at h ⊢
  by_cases q : (sCmp g n (sSum g n 6) a).1 = 1
  · rw [if_pos q] at h ⊢
    have h1 := sCmp_mono (sSum_mono g n 6) a q
    have h2 := sk_ge g n (sCmp g n (sSum g n 6) a).2
    have h3 := sLp_ge (op := oC) (sUn_mono g n 6) _ _ (Nat.le_refl _) (sk_id g n _) h
    omega
  · rw [if_neg q] at h
    exact absurd h zne1
theorem sQm_mono (g : Int → Int) (n : Int) (x : Int × Int) (h : (sQm g n x).1 = 1) : x.1 = 1 ∧ x.2 < (sQm g n x).2 := by
  unfold sQm at h ⊢
  by_cases q : x.1 = 1
  · refine ⟨q, ?_⟩
    rw [if_pos q] at h ⊢
    have h0 := sk_ge g n x.2
    by_cases z : g (sk g n x.2) = 63
    · rw [if_pos z] at h ⊢
      have := sSum_mono g n 6 _ h
      omega
    · rw [if_neg z] at h
      exact absurd h zne1
  · rw [if_neg q] at h
    exact absurd h zne1
theorem sCl2_mono (g : Int → Int) (n : Int) (a : Int) (h : (sCl2 g n a).1 = 1) : a < (sCl2 g n a).2 := by
  unfold sCl2 at h ⊢
  by_cases c : g (sk g n a) = 33 ∨ g (sk g n a) = 40
  · rw [if_pos c] at h ⊢
    obtain ⟨h1, h2⟩ := sQm_mono g n _ h
    have := sCon_mono g n 6 a h1
    omega
  · rw [if_neg c] at h ⊢
    by_cases q : (sSum g n 6 a).1 = 1
    · rw [if_pos q] at h ⊢
      have h1 := sSum_mono g n 6 a q
      by_cases z : g (sk g n (sSum g n 6 a).2) = 61 ∨ g (sk g n (sSum g n 6 a).2) = 60 ∨ g (sk g n (sSum g n 6 a).2) = 62
      · rw [if_pos z] at h ⊢
        obtain ⟨h2, h3⟩ := sQm_mono g n _ h
        have := sGo_mono g n _ h2
        omega
      · rw [if_neg z]
        have := sk_ge g n (sSum g n 6 a).2
        show a < sk g n (sSum g n 6 a).2
        omega
    · rw [if_neg q] at h
      exact absurd h zne1
theorem sCl_mono (g : Int → Int) (n : Int) (a : Int) (h : (sCl g n a).1 = 1) : a < (sCl g n a).2 := by
  have h0 := sk_ge g n a
  unfold sCl at h ⊢
  by_cases c : g (sk g n a) = 121
  · rw [if_pos c] at h ⊢
    have h1 := sk_ge g n (sk g n a + 1)
    by_cases d : g (sk g n (sk g n a + 1)) = 58
    · rw [if_pos d] at h ⊢
      have := sCl2_mono g n _ h
      omega
    · rw [if_neg d] at h
      exact absurd h zne1
  · rw [if_neg c] at h
    exact absurd h zne1
/-! the whole text -/
def zLr (f : Nat → Int32) (n g a : Int32) : Prop := (g.toInt = 1 ∧ sTm (sB f n.toInt) n.toInt oS (sCl (sB f n.toInt) n.toInt) 0 = sLp (sB f n.toInt) n.toInt oS (sCl (sB f n.toInt) n.toInt) (sk (sB f n.toInt) n.toInt a.toInt)) ∨ (g.toInt = 0 ∧ sTm (sB f n.toInt) n.toInt oS (sCl (sB f n.toInt) n.toInt) 0 = (0, a.toInt))
theorem zLr0 {f : Nat → Int32} {n r u : Int32} (h : zF (sCl (sB f n.toInt) n.toInt (0 : Int32).toInt) r u) (h0 : 0 ≤ r.toInt) (h1 : r.toInt ≤ 1) : zLr f n r u := by
  rw [show (0 : Int32).toInt = 0 from by decide] at h
  rcases (show r.toInt = 1 ∨ r.toInt = 0 by omega) with e | e
  · refine Or.inl ⟨e, ?_⟩
    unfold sTm
    rw [zF_1 h e, if_pos rfl]
  · refine Or.inr ⟨e, ?_⟩
    unfold sTm
    rw [zF_0 h e, if_neg zne1]
theorem zLrS {f : Nat → Int32} {n g a r u r2 u2 : Int32} (h : zLr f n g a) (hg : ¬ g.toInt = 0) (ht : zTk f n a 59 r u) (hr : ¬ r.toInt = 0) (hc : zF (sCl (sB f n.toInt) n.toInt u.toInt) r2 u2) (h0 : 0 ≤ r2.toInt) (h1 : r2.toInt ≤ 1) (hn : 0 ≤ a.toInt) : zLr f n r2 u2 := by
  rcases h with h | h
  · rcases ht with q | q
    · have e1 : sk (sB f n.toInt) n.toInt a.toInt < n.toInt := by omega
      have e2 : oS (sB f n.toInt (sk (sB f n.toInt) n.toInt a.toInt)) = true := by rw [q.2.2.1]; decide
      rcases (show r2.toInt = 1 ∨ r2.toInt = 0 by omega) with e | e
      · refine Or.inl ⟨e, ?_⟩
        have c := zF_1 hc e
        have m := sCl_mono (sB f n.toInt) n.toInt u.toInt (by rw [c])
        rw [c] at m
        have m : u.toInt < u2.toInt := m
        have k := sk_ge (sB f n.toInt) n.toInt u2.toInt
        rw [h.2, sLp_go e1 e2 (by rw [← q.2.1, c]) (by rw [← q.2.1, c]; show _ < sk _ _ u2.toInt; omega), ← q.2.1, c]
      · refine Or.inr ⟨e, ?_⟩
        have c := zF_0 hc e
        rw [h.2, sLp_bad e1 e2 (by rw [← q.2.1, c]; exact zne1), ← q.2.1, c]
    · exact absurd q.1 hr
  · exact absurd h.1 hg
/-- the loop is over, all is good so far -/
theorem zLrE {f : Nat → Int32} {n g a : Int32} (h : zLr f n g a) (hg : ¬ g.toInt = 0) (he : n.toInt ≤ a.toInt ∨ ¬ sB f n.toInt (sk (sB f n.toInt) n.toInt a.toInt) = 59) : sLaw (sB f n.toInt) n.toInt = (if n.toInt ≤ sk (sB f n.toInt) n.toInt a.toInt then -1 else sk (sB f n.toInt) n.toInt a.toInt) := by
  have k := sk_ge (sB f n.toInt) n.toInt a.toInt
  rcases h with h | h
  · unfold sLaw
    rw [h.2, sLp_end (fun z => he.elim (fun y => by have := z.1; omega) (fun y => y (oS_iff.mp z.2)))]
    unfold sFin
    rw [if_pos rfl]
    show (if n.toInt ≤ sk _ _ (sk (sB f n.toInt) n.toInt a.toInt) then (-1 : Int) else sk _ _ (sk (sB f n.toInt) n.toInt a.toInt)) = _
    rw [sk_id]
  · exact absurd h.1 hg
theorem zLrP {f : Nat → Int32} {n g a c u : Int32} (h : zLr f n g a) (hg : ¬ g.toInt = 0) (he : n.toInt ≤ a.toInt ∨ ¬ sB f n.toInt (sk (sB f n.toInt) n.toInt a.toInt) = 59) (hp : sk (sB f n.toInt) n.toInt a.toInt = u.toInt) (hs : zSg f n u c) : (c.toInt = 0 → sLaw (sB f n.toInt) n.toInt = -1) ∧ (¬ c.toInt = 0 → sLaw (sB f n.toInt) n.toInt = u.toInt) := by
  rw [zLrE h hg he, hp]
  rcases hs with q | q
  · exact ⟨fun z => by omega, fun z => if_neg (by omega)⟩
  · exact ⟨fun z => if_pos q.2.2, fun z => absurd q.2.1 z⟩
theorem zLrF {f : Nat → Int32} {n g a : Int32} (h : zLr f n g a) (hg : g.toInt = 0) : sLaw (sB f n.toInt) n.toInt = a.toInt := by
  rcases h with h | h
  · omega
  · unfold sLaw sFin
    rw [h.2, if_neg zne1]
theorem zTk_n {f : Nat → Int32} {n a c r u : Int32} {k : Int} (h : zTk f n a c r u) (hr : r.toInt = 0) (hk : c.toInt = k) : ¬ sB f n.toInt (sk (sB f n.toInt) n.toInt a.toInt) = k := by
  rcases h with q | q
  · omega
  · rw [← hk]
    exact q.2.2
theorem zTk_s {f : Nat → Int32} {n a c r u : Int32} {w : Int} (h : zTk f n a c r u) (hr : r.toInt = 0) (hw : sk (sB f n.toInt) n.toInt u.toInt = w) : sk (sB f n.toInt) n.toInt a.toInt = w := by
  rcases h with q | q
  · omega
  · rw [← hw, q.2.1, sk_id]
