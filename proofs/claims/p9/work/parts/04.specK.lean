theorem zL0_b : ∀ i : Nat, i < 6 → zB6 ((fun _ : Nat => (0 : Int32)) i) := fun i _ => by
  show zB6 0
  unfold zB6
  decide
theorem eTt_pr {g : Int → Int} {n a : Int} (ha : (sCl2 g n a).1 = 1) : ∀ t ∈ eTt g n a, zPr t := by
  unfold eTt
  by_cases hb : eB2 g n a = true
  · rw [if_pos hb]
    obtain ⟨v, g1, -⟩ := eT2_g zL0_b a ha hb
    exact g1.2.2
  · rw [if_neg hb]
    intro t ht
    simp at ht
theorem eS2_pr {g : Int → Int} {n a : Int} (ha : (sCl2 g n a).1 = 1) : ∀ t ∈ eS2 g n a, zPr t := by
  obtain ⟨v, g1, -⟩ := eS2_g zL0_b a ha
  exact g1.2.2
def zTbd (t : Int × Int) : Prop := 0 ≤ t.1 ∧ t.1 ≤ 255 ∧ 0 ≤ t.2 ∧ t.2 ≤ 9999
theorem zPr_b {t : Int × Int} (h : zPr t) : zTbd t := by
  unfold zPr zOp at h
  unfold zTbd
  omega
theorem eCl_b {g : Int → Int} {n a : Int} (ha : (sCl g n a).1 = 1) : ∀ t ∈ eCl g n a, zTbd t := by
  have h2 := sCl_af ha
  have hs := eS2_pr h2
  have h63 : zTbd (63, 0) := by
    unfold zTbd
    decide
  have h59 : zTbd (59, 0) := by
    unfold zTbd
    decide
  intro t ht
  unfold eCl eCl2 at ht
  by_cases hb : eB2 g n (eAf g n a) = true
  · rw [if_pos hb] at ht
    obtain ⟨v, g1, -⟩ := eT2_g zL0_b _ h2 hb
    rcases List.mem_append.mp ht with z | z
    · exact zPr_b (g1.2.2 t z)
    · rcases List.mem_cons.mp z with y | y
      · rw [y]
        exact h63
      · rcases List.mem_append.mp y with x | x
        · exact zPr_b (hs t x)
        · have : t = (59, 0) := by simpa using x
          rw [this]
          exact h59
  · rw [if_neg hb] at ht
    rcases List.mem_append.mp ht with x | x
    · exact zPr_b (hs t x)
    · have : t = (59, 0) := by simpa using x
      rw [this]
      exact h59
theorem eLw_b {g : Int → Int} {n : Int} : ∀ (k : Nat) (p : Int), (n - p).toNat ≤ k → ∀ t ∈ eLw g n p, zTbd t := by
  intro k
  induction k with
  | zero =>
    intro p hk t ht
    rw [eLw_end (fun z => by omega)] at ht
    simp at ht
  | succ k ih =>
    intro p hk t ht
    by_cases q : p < n ∧ oS (g p) = true
    · by_cases h3 : (sCl g n (p + 1)).1 = 1
      · by_cases h4 : p < sk g n (sCl g n (p + 1)).2
        · rw [eLw_go q.1 q.2 h3 h4] at ht
          rcases List.mem_append.mp ht with z | z
          · exact eCl_b h3 t z
          · exact ih _ (by omega) t z
        · rw [eLw, dif_pos q, if_pos h3, dif_neg h4] at ht
          simp at ht
      · rw [eLw, dif_pos q, if_neg h3] at ht
        simp at ht
    · rw [eLw_end q] at ht
      simp at ht
theorem eLaw_b {g : Int → Int} {n : Int} (hc : (sCl g n 0).1 = 1) : ∀ t ∈ eLaw g n, zTbd t := by
  intro t ht
  unfold eLaw at ht
  rcases List.mem_append.mp ht with z | z
  · exact eCl_b hc t z
  · exact eLw_b _ _ (Nat.le_refl _) t z
theorem zTok_mk {fS f' : Nat → Int32} {s' : Int32} {g : Int → Int} {n : Int} {lk : Nat} (h : zEm fS 0 (eLaw g n) f' s') (hc : (sCl g n 0).1 = 1) (hl : (lk : Int) = s'.toInt) : zTok f' lk (eLaw g n) := by
  obtain ⟨h1, -, h3⟩ := h
  rw [show (0 : Int32).toInt = 0 from by decide] at h1 h3
  refine ⟨by omega, fun i t ht => ?_⟩
  have := h3 i t ht
  rw [show (0 : Int).toNat + i = i by omega] at this
  exact ⟨this, eLaw_b hc t (List.mem_of_getElem? ht)⟩
theorem eLs_ok {g : Int → Int} {n : Int} : ∀ (k : Nat) (p : Int), (n - p).toNat ≤ k → ∀ a ∈ eLs g n p, (sCl g n a).1 = 1 := by
  intro k
  induction k with
  | zero =>
    intro p hk t ht
    rw [eLs_end (fun z => by omega)] at ht
    simp at ht
  | succ k ih =>
    intro p hk t ht
    by_cases q : p < n ∧ oS (g p) = true
    · by_cases h3 : (sCl g n (p + 1)).1 = 1
      · by_cases h4 : p < sk g n (sCl g n (p + 1)).2
        · rw [eLs_go q.1 q.2 h3 h4] at ht
          rcases List.mem_cons.mp ht with z | z
          · rw [z]
            exact h3
          · exact ih _ (by omega) t z
        · rw [eLs, dif_pos q, if_pos h3, dif_neg h4] at ht
          simp at ht
      · rw [eLs, dif_pos q, if_neg h3] at ht
        simp at ht
    · rw [eLs_end q] at ht
      simp at ht
theorem eCs_ok {g : Int → Int} {n : Int} (hc : (sCl g n 0).1 = 1) : ∀ a ∈ eCs g n, (sCl2 g n (eAf g n a)).1 = 1 := by
  intro a ha
  unfold eCs at ha
  rcases List.mem_cons.mp ha with z | z
  · rw [z]
    exact sCl_af hc
  · exact sCl_af (eLs_ok _ _ (Nat.le_refl _) a z)
theorem rStep_c {L L' : Nat → Int32} (h : ∀ i : Nat, i < 6 → L i = L' i) {t : Int × Int} (ht : zPr t) (st : List Int32) : rStep L st t = rStep L' st t := by
  by_cases h2 : t.1 = 2
  · have h5 : t.2.toNat < 6 := by
      unfold zPr zOp at ht
      omega
    rw [rStep_2 L st t h2, rStep_2 L' st t h2, h _ h5]
  · unfold rStep
    rw [if_neg h2, if_neg h2]
theorem rFold_c {L L' : Nat → Int32} (h : ∀ i : Nat, i < 6 → L i = L' i) : ∀ (l : List (Int × Int)) (st : List Int32), (∀ t ∈ l, zPr t) → l.foldl (rStep L) st = l.foldl (rStep L') st := by
  intro l
  induction l with
  | nil => intro st _; rfl
  | cons t l ih =>
    intro st ht
    rw [List.foldl_cons, List.foldl_cons, rStep_c h (ht t (List.mem_cons_self ..)), ih _ (fun u hu => ht u (List.mem_cons_of_mem _ hu))]
theorem rWo_c {L L' : Nat → Int32} (h : ∀ i : Nat, i < 6 → L i = L' i) {g : Int → Int} {n : Int} : ∀ as : List Int, (∀ a ∈ as, (sCl2 g n (eAf g n a)).1 = 1) → rWo L g n as = rWo L' g n as := by
  intro as
  induction as with
  | nil => intro _; rfl
  | cons a as ih =>
    intro ha
    have h2 := ha a (List.mem_cons_self ..)
    unfold rWo
    rw [rFold_c h _ [] (eTt_pr h2), rFold_c h _ [] (eS2_pr h2), ih (fun b hb => ha b (List.mem_cons_of_mem _ hb))]
theorem zbnd {p v7 v10 : Int64} {v13 : Int32} (e7 : v7 = if p < 1000000 then p else 1000000) (e10 : v10 = if v7 < -1000000 then -1000000 else v7) (e13 : v13 = v10.toInt32) : v13 = zC6 p.toInt := by
  have i1 : (1000000 : Int64).toInt = 1000000 := by decide
  have i2 : (-1000000 : Int64).toInt = -1000000 := by decide
  have l1 : p < 1000000 ↔ p.toInt < 1000000 := by rw [Int64.lt_iff_toInt_lt, i1]
  have l2 : v7 < -1000000 ↔ v7.toInt < -1000000 := by rw [Int64.lt_iff_toInt_lt, i2]
  refine Int32.toInt_inj.mp ?_
  rw [zC6_i, e13, Int64.toInt_toInt32]
  by_cases q : p.toInt < 1000000
  · rw [if_pos (l1.mpr q)] at e7
    subst e7
    by_cases q2 : v7.toInt < -1000000
    · rw [if_pos (l2.mpr q2)] at e10
      rw [e10, i2, if_neg (by omega), if_pos q2]
      decide
    · rw [if_neg (fun z => q2 (l2.mp z))] at e10
      rw [e10, if_neg (by omega), if_neg q2]
      exact Int.bmod_eq_of_le (by omega) (by omega)
  · rw [if_neg (fun z => q (l1.mp z))] at e7
    subst e7
    rw [if_neg (fun z => by have := l2.mp z; rw [i1] at this; omega)] at e10
    rw [e10, i1]
    by_cases q2 : 1000000 < p.toInt
    · rw [if_pos q2]
      decide
    · rw [if_neg q2, if_neg (by omega), show p.toInt = 1000000 by omega]
      decide
def zI32 (x : Int) : Prop := -2147483648 ≤ x ∧ x ≤ 2147483647
def zJq (c x y : Int) : Int32 :=
  if c = 2 then zC6 (x + y) else if c = 3 then zC6 (x - y) else if c = 4 then zC6 (x * y) else if c = 5 then (if y = 0 then 0 else zC6 (x.tdiv y))
  else if c = 6 then (if x = y then 1 else 0) else if c = 7 then (if x < y then 1 else 0) else if c = 8 then (if y < x then 1 else 0)
  else if c = 10 then (if ¬ x = 0 ∧ ¬ y = 0 then 1 else 0) else (if ¬ x = 0 ∨ ¬ y = 0 then 1 else 0)
theorem zJq_r {t : Int} {a b : Int32} (ht : zOp t) : zJq (eRc t) a.toInt b.toInt = zJr t a b := by
  unfold zOp at ht
  rcases ht with h | h | h | h | h | h | h | h | h <;> subst h <;> simp [zJq, zJr, eRc]
theorem zqA {p0 r : Int32} {x y v : Int64} (c : p0.toInt = 2) (e : v = x + y) (F : r = zC6 v.toInt) (h1 : zI32 x.toInt) (h2 : zI32 y.toInt) : r = zJq p0.toInt x.toInt y.toInt := by
  unfold zI32 at h1 h2
  unfold zJq
  rw [if_pos c, F, e, Int64.toInt_add, Int.bmod_eq_of_le (by omega) (by omega)]
theorem zqS {p0 r : Int32} {x y v : Int64} (c : p0.toInt = 3) (e : v = x - y) (F : r = zC6 v.toInt) (h1 : zI32 x.toInt) (h2 : zI32 y.toInt) : r = zJq p0.toInt x.toInt y.toInt := by
  unfold zI32 at h1 h2
  unfold zJq
  rw [if_neg (by omega), if_pos c, F, e, Int64.toInt_sub, Int.bmod_eq_of_le (by omega) (by omega)]
theorem zqM {p0 r : Int32} {x y v : Int64} (c : p0.toInt = 4) (e : v = x * y) (F : r = zC6 v.toInt) (h1 : zI32 x.toInt) (h2 : zI32 y.toInt) : r = zJq p0.toInt x.toInt y.toInt := by
  have b := zmulb h1 h2
  unfold zJq
  rw [if_neg (by omega), if_neg (by omega), if_pos c, F, e, Int64.toInt_mul, Int.bmod_eq_of_le (by omega) (by omega)]
theorem zlc0 {x : Int64} {v : Int32} (e : v = if x > 0 then 1 else if x = 0 then 0 else -1) : v.toInt = 0 ↔ x.toInt = 0 := by
  have h := zlc e
  rw [show (0 : Int64).toInt = 0 from by decide] at h
  omega
theorem zqD0 {p0 u : Int32} {x y : Int64} (c : p0.toInt = 5) (e : u = if y > 0 then 1 else if y = 0 then 0 else -1) (c2 : u.toInt = 0) : (0 : Int32) = zJq p0.toInt x.toInt y.toInt := by
  unfold zJq
  rw [if_neg (by omega), if_neg (by omega), if_neg (by omega), if_pos c, if_pos ((zlc0 e).mp c2)]
theorem zqD {p0 u r : Int32} {x y v : Int64} (c : p0.toInt = 5) (e : u = if y > 0 then 1 else if y = 0 then 0 else -1) (c2 : ¬ u.toInt = 0) (ev : v = x / y) (F : r = zC6 v.toInt) (h1 : zI32 x.toInt) : r = zJq p0.toInt x.toInt y.toInt := by
  unfold zI32 at h1
  have hx : ¬ x = Int64.minValue := fun z => by
    rw [z] at h1
    exact absurd h1.1 (by decide)
  unfold zJq
  rw [if_neg (by omega), if_neg (by omega), if_neg (by omega), if_pos c, if_neg (fun z => c2 ((zlc0 e).mpr z)), F, ev, Int64.toInt_div_of_ne_left _ _ hx]
theorem zq6 {p0 u : Int32} {x y : Int64} (c : p0.toInt = 6) (e : u = if x > y then 1 else if x = y then 0 else -1) : (u.toInt = 0 → (1 : Int32) = zJq p0.toInt x.toInt y.toInt) ∧ (¬ u.toInt = 0 → (0 : Int32) = zJq p0.toInt x.toInt y.toInt) := by
  have h := zlc e
  unfold zJq
  rw [if_neg (by omega), if_neg (by omega), if_neg (by omega), if_neg (by omega), if_pos c]
  exact ⟨fun q => by rw [if_pos (by omega)], fun q => by rw [if_neg (by omega)]⟩
theorem zq7 {p0 u : Int32} {x y : Int64} (c : p0.toInt = 7) (e : u = if x > y then 1 else if x = y then 0 else -1) : (u.toInt < 0 → (1 : Int32) = zJq p0.toInt x.toInt y.toInt) ∧ (0 ≤ u.toInt → (0 : Int32) = zJq p0.toInt x.toInt y.toInt) := by
  have h := zlc e
  unfold zJq
  rw [if_neg (by omega), if_neg (by omega), if_neg (by omega), if_neg (by omega), if_neg (by omega), if_pos c]
  exact ⟨fun q => by rw [if_pos (by omega)], fun q => by rw [if_neg (by omega)]⟩
theorem zq8 {p0 u : Int32} {x y : Int64} (c : p0.toInt = 8) (e : u = if x > y then 1 else if x = y then 0 else -1) : (0 < u.toInt → (1 : Int32) = zJq p0.toInt x.toInt y.toInt) ∧ (u.toInt ≤ 0 → (0 : Int32) = zJq p0.toInt x.toInt y.toInt) := by
  have h := zlc e
  unfold zJq
  rw [if_neg (by omega), if_neg (by omega), if_neg (by omega), if_neg (by omega), if_neg (by omega), if_neg (by omega), if_pos c]
  exact ⟨fun q => by rw [if_pos (by omega)], fun q => by rw [if_neg (by omega)]⟩
theorem zq10a {p0 u : Int32} {x y : Int64} (c : p0.toInt = 10) (e : u = if x > 0 then 1 else if x = 0 then 0 else -1) (q : u.toInt = 0) : (0 : Int32) = zJq p0.toInt x.toInt y.toInt := by
  have h := zlc0 e
  unfold zJq
  rw [if_neg (by omega), if_neg (by omega), if_neg (by omega), if_neg (by omega), if_neg (by omega), if_neg (by omega), if_neg (by omega), if_pos c, if_neg (by omega)]
theorem zq10b {p0 u w : Int32} {x y : Int64} (c : p0.toInt = 10) (e : u = if x > 0 then 1 else if x = 0 then 0 else -1) (q : ¬ u.toInt = 0) (e2 : w = if y > 0 then 1 else if y = 0 then 0 else -1) : (w.toInt = 0 → (0 : Int32) = zJq p0.toInt x.toInt y.toInt) ∧ (¬ w.toInt = 0 → (1 : Int32) = zJq p0.toInt x.toInt y.toInt) := by
  have h := zlc0 e
  have h2 := zlc0 e2
  unfold zJq
  rw [if_neg (by omega), if_neg (by omega), if_neg (by omega), if_neg (by omega), if_neg (by omega), if_neg (by omega), if_neg (by omega), if_pos c]
  exact ⟨fun q => by rw [if_neg (by omega)], fun q => by rw [if_pos (by omega)]⟩
theorem zq11a {p0 u : Int32} {x y : Int64} (c : p0.toInt < 2 ∨ 10 < p0.toInt ∨ p0.toInt = 9) (e : u = if x > 0 then 1 else if x = 0 then 0 else -1) (q : ¬ u.toInt = 0) : (1 : Int32) = zJq p0.toInt x.toInt y.toInt := by
  have h := zlc0 e
  unfold zJq
  rw [if_neg (by omega), if_neg (by omega), if_neg (by omega), if_neg (by omega), if_neg (by omega), if_neg (by omega), if_neg (by omega), if_neg (by omega), if_pos (by omega)]
theorem zq11b {p0 u w : Int32} {x y : Int64} (c : p0.toInt < 2 ∨ 10 < p0.toInt ∨ p0.toInt = 9) (e : u = if x > 0 then 1 else if x = 0 then 0 else -1) (q : u.toInt = 0) (e2 : w = if y > 0 then 1 else if y = 0 then 0 else -1) : (w.toInt = 0 → (0 : Int32) = zJq p0.toInt x.toInt y.toInt) ∧ (¬ w.toInt = 0 → (1 : Int32) = zJq p0.toInt x.toInt y.toInt) := by
  have h := zlc0 e
  have h2 := zlc0 e2
  unfold zJq
  rw [if_neg (by omega), if_neg (by omega), if_neg (by omega), if_neg (by omega), if_neg (by omega), if_neg (by omega), if_neg (by omega), if_neg (by omega)]
  exact ⟨fun q => by rw [if_neg (by omega)], fun q => by rw [if_pos (by omega)]⟩
def zWk (L : Nat → Int32) (l : List (Int × Int)) (K : Nat → Int32) (top : Int32) (m : Int) : Prop := 0 ≤ m ∧ ∃ st : List Int32, zStk K top.toInt st ∧ (l.drop m.toNat).foldl (rStep L) st = l.foldl (rStep L) []
def zWp (fC fV : Nat → Int32) (o s e : Int) (l : List (Int × Int)) : Prop := zAq fC fV o.toNat s l ∧ (l.length : Int) = e - s ∧ (∀ t ∈ l, zPr t) ∧ 0 ≤ o ∧ 0 ≤ s
theorem zWk0 {L K : Nat → Int32} {l : List (Int × Int)} {m : Int} (hm : m = 0) : zWk L l K 0 m := by
  rw [hm]
  exact ⟨by decide, [], ⟨rfl, fun j v h => by simp at h⟩, rfl⟩
theorem zWkT {fC fV : Nat → Int32} {o s e : Int} {l : List (Int × Int)} {k : Int32} {m : Int} (h : zWp fC fV o s e l) (hm : 0 ≤ m) (hk : k.toInt = o + s + m) (hk2 : k.toInt < o + e) : ∃ t : Int × Int, l.drop m.toNat = t :: l.drop (m.toNat + 1) ∧ zPr t ∧ (fC k.toNatClampNeg).toInt = eRc t.1 ∧ ((t.1 = 1 ∨ t.1 = 2) → (fV k.toNatClampNeg).toInt = t.2) := by
  obtain ⟨a1, a2, a3, a4, a5⟩ := h
  have hl : m.toNat < l.length := by omega
  have kk : k.toNatClampNeg = k.toInt.toNat := rfl
  have y := a1 m.toNat l[m.toNat] (List.getElem?_eq_getElem hl)
  rw [show o.toNat + s.toNat + m.toNat = k.toNatClampNeg by omega] at y
  exact ⟨l[m.toNat], List.drop_eq_getElem_cons hl, a3 _ (List.getElem_mem hl), y.1, y.2⟩
theorem eRc_k {t : Int × Int} (h : zPr t) : (eRc t.1 = 0 ↔ t.1 = 1) ∧ (eRc t.1 = 1 ↔ t.1 = 2) ∧ (eRc t.1 = 9 ↔ t.1 = 33) := by
  unfold zPr zOp at h
  have : t.1 = 1 ∨ t.1 = 2 ∨ t.1 = 33 ∨ t.1 = 43 ∨ t.1 = 45 ∨ t.1 = 42 ∨ t.1 = 47 ∨ t.1 = 61 ∨ t.1 = 60 ∨ t.1 = 62 ∨ t.1 = 38 ∨ t.1 = 124 := by omega
  rcases this with q | q | q | q | q | q | q | q | q | q | q | q <;> rw [q] <;> decide
theorem zWkS {L K' : Nat → Int32} {l : List (Int × Int)} {top' : Int32} {m m' : Int} {st st' : List Int32} {t : Int × Int} (hm : 0 ≤ m) (e : (l.drop m.toNat).foldl (rStep L) st = l.foldl (rStep L) []) (d : l.drop m.toNat = t :: l.drop (m.toNat + 1)) (hs : rStep L st t = st') (hz : zStk K' top'.toInt st') (hm' : m' = m + 1) : zWk L l K' top' m' := by
  refine ⟨by omega, st', hz, ?_⟩
  rw [show m'.toNat = m.toNat + 1 by omega, ← e, d, List.foldl_cons, hs]
theorem zWkP {fC fV L K K' : Nat → Int32} {o s e : Int} {l : List (Int × Int)} {k top top' c x : Int32} {m m' : Int} (h : zWk L l K top m) (hp : zWp fC fV o s e l) (hk : k.toInt = o + s + m) (hk2 : k.toInt < o + e) (ec : c = fC k.toNatClampNeg) (hc : c.toInt = 0) (ex : x = fV k.toNatClampNeg) (eK : K' = upd K top.toNatClampNeg x) (ht : top'.toInt = top.toInt + 1) (hm' : m' = m + 1) : zWk L l K' top' m' := by
  obtain ⟨h0, st, z1, z2⟩ := h
  obtain ⟨t, d1, d2, d3, d4⟩ := zWkT hp h0 hk hk2
  rw [ec, d3] at hc
  have t1 := (eRc_k d2).1.mp hc
  refine zWkS h0 z2 d1 ?_ (zStk_p z1 eK ht) hm'
  unfold rStep
  rw [if_pos t1, ← d4 (Or.inl t1), Int32.ofInt_toInt, ex]
theorem zWkL {fC fV L K K' : Nat → Int32} {o s e : Int} {l : List (Int × Int)} {k top top' c y x : Int32} {m m' : Int} (h : zWk L l K top m) (hp : zWp fC fV o s e l) (hk : k.toInt = o + s + m) (hk2 : k.toInt < o + e) (ec : c = fC k.toNatClampNeg) (hc : c.toInt = 1) (ey : y = fV k.toNatClampNeg) (ex : x = L y.toNatClampNeg) (eK : K' = upd K top.toNatClampNeg x) (ht : top'.toInt = top.toInt + 1) (hm' : m' = m + 1) : zWk L l K' top' m' := by
  obtain ⟨h0, st, z1, z2⟩ := h
  obtain ⟨t, d1, d2, d3, d4⟩ := zWkT hp h0 hk hk2
  rw [ec, d3] at hc
  have t1 := (eRc_k d2).2.1.mp hc
  refine zWkS h0 z2 d1 ?_ (zStk_p z1 eK ht) hm'
  unfold rStep
  rw [if_neg (by omega), if_pos t1, ← d4 (Or.inr t1), ex, ey]
  rfl
theorem zWkN {fC fV L K K' : Nat → Int32} {o s e : Int} {l : List (Int × Int)} {k top c j j2 x y : Int32} {m m' : Int} (h : zWk L l K top m) (hp : zWp fC fV o s e l) (hk : k.toInt = o + s + m) (hk2 : k.toInt < o + e) (ec : c = fC k.toNatClampNeg) (hc : c.toInt = 9) (h1 : 1 ≤ top.toInt) (hj : j.toInt = top.toInt - 1) (hj2 : j2.toInt = top.toInt - 1) (ex : x = K j2.toNatClampNeg) (ey : y = 1 - x) (eK : K' = upd K j.toNatClampNeg y) (hm' : m' = m + 1) : zWk L l K' top m' := by
  obtain ⟨h0, st, z1, z2⟩ := h
  obtain ⟨t, d1, d2, d3, d4⟩ := zWkT hp h0 hk hk2
  rw [ec, d3] at hc
  have t1 := (eRc_k d2).2.2.mp hc
  obtain ⟨w, r, u1, u2, u3⟩ := zStk_t z1 h1
  have jj : j2.toNatClampNeg = j2.toInt.toNat := rfl
  have ew : x = w := by
    rw [ex, ← u2]
    congr 1
    omega
  refine zWkS (st' := y :: r) h0 z2 d1 ?_ (zStk_p (by rw [hj]; exact u3) eK (by omega)) hm'
  unfold rStep
  rw [if_neg (by omega), if_neg (by omega), u1]
  show (if t.1 = 33 then (1 - w) :: r else _) = _
  rw [if_pos t1, ey, ew]
theorem zWkO {fC fV L K K' : Nat → Int32} {o s e : Int} {l : List (Int × Int)} {k top top' c c0 j j2 x y z : Int32} {xl yl : Int64} {m m' : Int} (h : zWk L l K top m) (hp : zWp fC fV o s e l) (hk : k.toInt = o + s + m) (hk2 : k.toInt < o + e) (ec : c = fC k.toNatClampNeg) (ec0 : c0 = fC k.toNatClampNeg) (hc : ¬ c.toInt = 0 ∧ ¬ c.toInt = 1 ∧ ¬ c.toInt = 9) (h1 : 2 ≤ top.toInt) (htp : top'.toInt = top.toInt - 1) (hj : j.toInt = top'.toInt - 1) (hj2 : j2.toInt = top'.toInt - 1) (ey : y = K j2.toNatClampNeg) (eyl : yl = y.toInt64) (ex : x = K top'.toNatClampNeg) (exl : xl = x.toInt64) (ez : zI32 yl.toInt → zI32 xl.toInt → z = zJq c0.toInt yl.toInt xl.toInt) (eK : K' = upd K j.toNatClampNeg z) (hm' : m' = m + 1) : zWk L l K' top' m' := by
  obtain ⟨h0, st, z1, z2⟩ := h
  obtain ⟨t, d1, d2, d3, d4⟩ := zWkT hp h0 hk hk2
  obtain ⟨k1, k2, k3⟩ := eRc_k d2
  have hop : zOp t.1 := by
    rw [ec, d3] at hc
    have d5 := d2
    unfold zPr at d5
    rcases d5 with q | q | q
    · exact absurd (k1.mpr q.1) hc.1
    · exact absurd (k2.mpr q.1) hc.2.1
    · rcases q.1 with y | y
      · exact absurd (k3.mpr y) hc.2.2
      · exact y
  obtain ⟨w, r, u1, u2, u3⟩ := zStk_t z1 (by omega)
  obtain ⟨v, r2, v1, v2, v3⟩ := zStk_t u3 (by omega)
  have jj : j2.toNatClampNeg = j2.toInt.toNat := rfl
  have tt : top'.toNatClampNeg = top'.toInt.toNat := rfl
  have ew : x = w := by
    rw [ex, ← u2]
    congr 1
    omega
  have ev : y = v := by
    rw [ey, ← v2]
    congr 1
    omega
  have hz : z = zJr t.1 v w := by
    have q := ez (by rw [zi2l eyl]; exact zi32b y) (by rw [zi2l exl]; exact zi32b x)
    rw [q, ec0, d3, zi2l eyl, zi2l exl, zJq_r hop, ev, ew]
  refine zWkS (st' := z :: r2) h0 z2 d1 ?_ (zStk_p (by rw [hj, htp]; exact v3) eK (by omega)) hm'
  have o1 : ¬ t.1 = 1 ∧ ¬ t.1 = 2 ∧ ¬ t.1 = 33 := by
    unfold zOp at hop
    omega
  unfold rStep
  rw [if_neg o1.1, if_neg o1.2.1, u1, v1]
  show (if t.1 = 33 then _ else zJr t.1 v w :: r2) = _
  rw [if_neg o1.2.2, hz]
theorem zWkE {fC fV L K : Nat → Int32} {o s e : Int} {l : List (Int × Int)} {k top x v : Int32} {m : Int} (h : zWk L l K top m) (hp : zWp fC fV o s e l) (hk : k.toInt = o + s + m) (hk2 : o + e ≤ k.toInt) (ex : x = K (0 : Int32).toNatClampNeg) (hv : l.foldl (rStep L) [] = [v]) : x = v := by
  obtain ⟨h0, st, z1, z2⟩ := h
  have q := hp.2.1
  rw [List.drop_eq_nil_of_le (by omega), hv] at z2
  have z2 : st = [v] := z2
  have := z1.2 0 v (by rw [z2]; rfl)
  rw [z2] at this
  rw [ex]
  exact this
def zLR (g : Int → Int) (n : Int) (fC fV fK fT fS fU : Nat → Int32) (tx : Nat) : Prop := (sCl g n 0).1 = 1 ∧ (∃ D : Int, zCks g n fC fV fT fS fU tx (eCs g n) D) ∧ (fK tx).toInt = ((eCs g n).length : Int)
def zWv (L : Nat → Int32) (g : Int → Int) (n : Int) (m : Int) : Prop := 0 ≤ m ∧ rWo L g n ((eCs g n).drop m.toNat) = rWo L g n (eCs g n)
theorem zWv0 {L : Nat → Int32} {g : Int → Int} {n m : Int} (h : m = 0) : zWv L g n m := by
  rw [h]
  exact ⟨by decide, rfl⟩
theorem zWvT {g : Int → Int} {n : Int} {fC fV fK fT fS fU : Nat → Int32} {p c a b d : Int32} {m : Int} (h : zLR g n fC fV fK fT fS fU p.toInt.toNat) (h0 : 0 ≤ p.toInt) (hm : 0 ≤ m) (hc : c.toInt = 140 * p.toInt + m) (hk : m < (fK p.toInt.toNat).toInt) (ea : a = fT c.toNatClampNeg) (eb : b = fS c.toNatClampNeg) (ed : d = fU c.toNatClampNeg) : ∃ x : Int, (eCs g n).drop m.toNat = x :: (eCs g n).drop (m.toNat + 1) ∧ (sCl2 g n (eAf g n x)).1 = 1 ∧ zWp fC fV (520 * p.toInt) a.toInt b.toInt (eTt g n (eAf g n x)) ∧ zWp fC fV (520 * p.toInt) b.toInt d.toInt (eS2 g n (eAf g n x)) := by
  obtain ⟨h1, ⟨D, h2⟩, h3⟩ := h
  have hl : m.toNat < (eCs g n).length := by omega
  have cc : c.toNatClampNeg = c.toInt.toNat := rfl
  obtain ⟨⟨z1, z2, z3, z4, z5⟩, -⟩ := h2 m.toNat (eCs g n)[m.toNat] (List.getElem?_eq_getElem hl)
  have k2 := eCs_ok h1 _ (List.getElem_mem hl)
  rw [show 140 * p.toInt.toNat + m.toNat = c.toNatClampNeg by omega] at z1 z2 z3 z4 z5
  rw [← ea] at z1 z2 z4
  rw [← eb] at z2 z3 z5
  rw [← ed] at z3
  rw [show 520 * p.toInt.toNat = (520 * p.toInt).toNat by omega] at z4 z5
  exact ⟨_, List.drop_eq_getElem_cons hl, k2, ⟨z4, by omega, eTt_pr k2, by omega, z1⟩, ⟨z5, by omega, eS2_pr k2, by omega, by omega⟩⟩
theorem zS2v {L : Nat → Int32} (hL : ∀ i : Nat, i < 6 → zB6 (L i)) {g : Int → Int} {n x : Int} (h : (sCl2 g n (eAf g n x)).1 = 1) : ∃ v, (eS2 g n (eAf g n x)).foldl (rStep L) [] = [v] := by
  obtain ⟨v, g1, -⟩ := eS2_g hL _ h
  exact ⟨v, g1.2.1 []⟩
theorem zT2v {L : Nat → Int32} (hL : ∀ i : Nat, i < 6 → zB6 (L i)) {g : Int → Int} {n x : Int} (h : (sCl2 g n (eAf g n x)).1 = 1) (hn : ¬ eTt g n (eAf g n x) = []) : ∃ v, (eTt g n (eAf g n x)).foldl (rStep L) [] = [v] := by
  unfold eTt at hn ⊢
  by_cases hb : eB2 g n (eAf g n x) = true
  · rw [if_pos hb]
    obtain ⟨v, g1, -⟩ := eT2_g hL _ h hb
    exact ⟨v, g1.2.1 []⟩
  · rw [if_neg hb] at hn
    exact absurd rfl hn
def zWq (fC fV L : Nat → Int32) (p a b r : Int32) : Prop := ∀ (lt : List (Int × Int)) (v : Int32), zWp fC fV (520 * p.toInt) a.toInt b.toInt lt → lt.foldl (rStep L) [] = [v] → r = v
theorem zWvN {g : Int → Int} {n : Int} {fC fV fK fT fS fU L : Nat → Int32} {p c a b a2 b2 r c' : Int32} {m m' : Int} (w : zWv L g n m) (h : zLR g n fC fV fK fT fS fU p.toInt.toNat) (hL : ∀ i : Nat, i < 6 → zB6 (L i)) (h0 : 0 ≤ p.toInt) (hc : c.toInt = 140 * p.toInt + m) (hk : m < (fK p.toInt.toNat).toInt) (ea : a = fT c.toNatClampNeg) (eb : b = fS c.toNatClampNeg) (hab : ¬ a.toInt = b.toInt) (ea2 : a2 = fT c.toNatClampNeg) (eb2 : b2 = fS c.toNatClampNeg) (hw : zWq fC fV L p a2 b2 r) (hr : r.toInt = 0) (hm' : m' = m + 1) : zWv L g n m' := by
  rw [← ea] at ea2
  rw [← eb] at eb2
  subst ea2 eb2
  obtain ⟨hm, w2⟩ := w
  obtain ⟨x, x1, x2, x3, x4⟩ := zWvT h h0 hm hc hk ea eb rfl
  have hl := x3.2.1
  have hn : ¬ eTt g n (eAf g n x) = [] := fun z => by
    rw [z] at hl
    simp at hl
    omega
  obtain ⟨v, hv⟩ := zT2v hL x2 hn
  have rv := hw _ v x3 hv
  refine ⟨by omega, ?_⟩
  rw [← w2, x1, show m'.toNat = m.toNat + 1 by omega]
  show _ = (if eTt g n (eAf g n x) = [] ∨ ¬ (((eTt g n (eAf g n x)).foldl (rStep L) []).headD 0).toInt = 0 then _ else rWo L g n ((eCs g n).drop (m.toNat + 1)))
  rw [hv, if_neg (fun z => z.elim hn (fun y => y (by show v.toInt = 0; rw [← rv]; exact hr)))]
theorem zWvY {g : Int → Int} {n : Int} {fC fV fK fT fS fU L : Nat → Int32} {p c a b d r : Int32} {m : Int} (w : zWv L g n m) (h : zLR g n fC fV fK fT fS fU p.toInt.toNat) (hL : ∀ i : Nat, i < 6 → zB6 (L i)) (h0 : 0 ≤ p.toInt) (hc : c.toInt = 140 * p.toInt + m) (hk : m < (fK p.toInt.toNat).toInt) (ht : ∀ x : Int, (sCl2 g n (eAf g n x)).1 = 1 → zWp fC fV (520 * p.toInt) (fT c.toNatClampNeg).toInt (fS c.toNatClampNeg).toInt (eTt g n (eAf g n x)) → eTt g n (eAf g n x) = [] ∨ ¬ (((eTt g n (eAf g n x)).foldl (rStep L) []).headD 0).toInt = 0) (eb : b = fS c.toNatClampNeg) (ed : d = fU c.toNatClampNeg) (hw : zWq fC fV L p b d r) : r = rWo L g n (eCs g n) := by
  obtain ⟨hm, w2⟩ := w
  obtain ⟨x, x1, x2, x3, x4⟩ := zWvT h h0 hm hc hk rfl eb ed
  obtain ⟨v, hv⟩ := zS2v hL x2
  rw [← w2, x1]
  show r = (if eTt g n (eAf g n x) = [] ∨ ¬ (((eTt g n (eAf g n x)).foldl (rStep L) []).headD 0).toInt = 0 then ((eS2 g n (eAf g n x)).foldl (rStep L) []).headD 0 else _)
  rw [if_pos (ht x x2 (by rw [← eb]; exact x3)), hv, hw _ v x4 hv]
  rfl
theorem zWvY1 {g : Int → Int} {n : Int} {fC fV fT fS L : Nat → Int32} {p c a b : Int32} (ea : a = fT c.toNatClampNeg) (eb : b = fS c.toNatClampNeg) (hab : a.toInt = b.toInt) : ∀ x : Int, (sCl2 g n (eAf g n x)).1 = 1 → zWp fC fV (520 * p.toInt) (fT c.toNatClampNeg).toInt (fS c.toNatClampNeg).toInt (eTt g n (eAf g n x)) → eTt g n (eAf g n x) = [] ∨ ¬ (((eTt g n (eAf g n x)).foldl (rStep L) []).headD 0).toInt = 0 := by
  intro x _ h
  have := h.2.1
  rw [← ea, ← eb] at this
  exact Or.inl (List.eq_nil_of_length_eq_zero (by omega))
theorem zWvY2 {g : Int → Int} {n : Int} {fC fV fT fS L : Nat → Int32} (hL : ∀ i : Nat, i < 6 → zB6 (L i)) {p c a b r : Int32} (ea : a = fT c.toNatClampNeg) (eb : b = fS c.toNatClampNeg) (hw : zWq fC fV L p a b r) (hr : ¬ r.toInt = 0) : ∀ x : Int, (sCl2 g n (eAf g n x)).1 = 1 → zWp fC fV (520 * p.toInt) (fT c.toNatClampNeg).toInt (fS c.toNatClampNeg).toInt (eTt g n (eAf g n x)) → eTt g n (eAf g n x) = [] ∨ ¬ (((eTt g n (eAf g n x)).foldl (rStep L) []).headD 0).toInt = 0 := by
  intro x h1 h
  rw [← ea, ← eb] at h
  by_cases hn : eTt g n (eAf g n x) = []
  · exact Or.inl hn
  · obtain ⟨v, hv⟩ := zT2v hL h1 hn
    have rv := hw _ v h hv
    rw [hv]
    exact Or.inr (by show ¬ v.toInt = 0; rw [← rv]; exact hr)
theorem zWvE {g : Int → Int} {n : Int} {fC fV fK fT fS fU L : Nat → Int32} {p : Int32} {m : Int} (w : zWv L g n m) (h : zLR g n fC fV fK fT fS fU p.toInt.toNat) (hk : (fK p.toInt.toNat).toInt ≤ m) : (0 : Int32) = rWo L g n (eCs g n) := by
  have h3 := h.2.2
  rw [← w.2, List.drop_eq_nil_of_le (by omega)]
  rfl
