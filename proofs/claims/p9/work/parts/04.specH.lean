def zC6 (x : Int) : Int32 := Int32.ofInt (if 1000000 < x then 1000000 else if x < -1000000 then -1000000 else x)
def zJc (s : Int) (a b : Int32) : Int32 :=
  if s = 61 then (if a.toInt = b.toInt then 1 else 0) else if s = 60 then (if a.toInt < b.toInt then 1 else 0) else if s = 62 then (if b.toInt < a.toInt then 1 else 0)
  else if s = 38 then a &&& b else if s = 124 then a ||| b
  else if s = 43 then zC6 (a.toInt + b.toInt) else if s = 45 then zC6 (a.toInt - b.toInt) else if s = 42 then zC6 (a.toInt * b.toInt)
  else zC6 (if b.toInt = 0 then 0 else (a / b).toInt)
def zJr (s : Int) (a b : Int32) : Int32 :=
  if s = 43 then zC6 (a.toInt + b.toInt) else if s = 45 then zC6 (a.toInt - b.toInt) else if s = 42 then zC6 (a.toInt * b.toInt)
  else if s = 47 then (if b.toInt = 0 then 0 else zC6 (a.toInt.tdiv b.toInt))
  else if s = 61 then (if a.toInt = b.toInt then 1 else 0) else if s = 60 then (if a.toInt < b.toInt then 1 else 0) else if s = 62 then (if b.toInt < a.toInt then 1 else 0)
  else if s = 38 then (if ¬ a.toInt = 0 ∧ ¬ b.toInt = 0 then 1 else 0) else (if ¬ a.toInt = 0 ∨ ¬ b.toInt = 0 then 1 else 0)
def cRun (L : Nat → Int32) : List (Int × Int) → Bool → List Int32 → Int32
  | [], _, _ => 0
  | t :: ts, true, st => cRun L ts (decide (¬ t.1 = 59)) st
  | t :: ts, false, st =>
    if t.1 = 1 ∨ t.1 = 2 then (if 32 ≤ st.length then 0 else cRun L ts false ((if t.1 = 1 then Int32.ofInt t.2 else L t.2.toNat) :: st))
    else match st with
      | [] => 0
      | x :: r => if t.1 = 59 then x else if t.1 = 63 then cRun L ts (decide (x.toInt = 0)) r else if t.1 = 33 then cRun L ts false ((1 - x) :: r)
        else match r with
          | [] => 0
          | y :: q => cRun L ts false (zJc t.1 y x :: q)
def rStep (L : Nat → Int32) (st : List Int32) (t : Int × Int) : List Int32 :=
  if t.1 = 1 then Int32.ofInt t.2 :: st else if t.1 = 2 then L t.2.toNat :: st
  else match st with
    | [] => []
    | x :: r => if t.1 = 33 then (1 - x) :: r else match r with | [] => [] | y :: q => zJr t.1 y x :: q
theorem rStep_1 (L : Nat → Int32) (st : List Int32) (t : Int × Int) (h : t.1 = 1) : rStep L st t = Int32.ofInt t.2 :: st := by
  unfold rStep
  rw [if_pos h]
theorem rStep_2 (L : Nat → Int32) (st : List Int32) (t : Int × Int) (h : t.1 = 2) : rStep L st t = L t.2.toNat :: st := by
  unfold rStep
  rw [if_neg (by omega), if_pos h]
theorem rStep_n (L : Nat → Int32) (x : Int32) (r : List Int32) (t : Int × Int) (h : t.1 = 33) : rStep L (x :: r) t = (1 - x) :: r := by
  unfold rStep
  rw [if_neg (by omega), if_neg (by omega)]
  show (if t.1 = 33 then (1 - x) :: r else _) = _
  rw [if_pos h]
def zOp (c : Int) : Prop := c = 43 ∨ c = 45 ∨ c = 42 ∨ c = 47 ∨ c = 61 ∨ c = 60 ∨ c = 62 ∨ c = 38 ∨ c = 124
def zPr (t : Int × Int) : Prop := (t.1 = 1 ∧ 0 ≤ t.2 ∧ t.2 ≤ 9999) ∨ (t.1 = 2 ∧ 0 ≤ t.2 ∧ t.2 ≤ 5) ∨ ((t.1 = 33 ∨ zOp t.1) ∧ t.2 = 0)
theorem zPr59 {t : Int × Int} (h : zPr t) : ¬ t.1 = 59 := by
  unfold zPr zOp at h
  omega
def zGd (L : Nat → Int32) (l : List (Int × Int)) (v : Int32) (h : Nat) : Prop := (∀ (rest : List (Int × Int)) (st : List Int32), st.length + h ≤ 32 → cRun L (l ++ rest) false st = cRun L rest false (v :: st)) ∧ (∀ st : List Int32, l.foldl (rStep L) st = v :: st) ∧ ∀ t ∈ l, zPr t
theorem zGd_m {L : Nat → Int32} {l : List (Int × Int)} {v : Int32} {h h' : Nat} (g : zGd L l v h) (hh : h ≤ h') : zGd L l v h' := ⟨fun rest st hs => g.1 rest st (by omega), g.2⟩
theorem zGd_num {L : Nat → Int32} {x : Int} (h : 0 ≤ x ∧ x ≤ 9999) : zGd L [(1, x)] (Int32.ofInt x) 1 := by
  refine ⟨fun rest st hs => ?_, fun st => ?_, fun t ht => ?_⟩
  · show (if (1 : Int) = 1 ∨ (1 : Int) = 2 then (if 32 ≤ st.length then 0 else cRun L rest false ((if (1 : Int) = 1 then Int32.ofInt x else L x.toNat) :: st)) else _) = _
    rw [if_pos (Or.inl rfl), if_neg (by omega), if_pos rfl]
  · exact rStep_1 L st (1, x) rfl
  · have : t = (1, x) := by simpa using ht
    rw [this]
    exact Or.inl ⟨rfl, h.1, h.2⟩
theorem zGd_let {L : Nat → Int32} {x : Int} (h : 0 ≤ x ∧ x ≤ 5) : zGd L [(2, x)] (L x.toNat) 1 := by
  refine ⟨fun rest st hs => ?_, fun st => ?_, fun t ht => ?_⟩
  · show (if (2 : Int) = 1 ∨ (2 : Int) = 2 then (if 32 ≤ st.length then 0 else cRun L rest false ((if (2 : Int) = 1 then Int32.ofInt x else L x.toNat) :: st)) else _) = _
    rw [if_pos (Or.inr rfl), if_neg (by omega), if_neg (by decide)]
  · exact rStep_2 L st (2, x) rfl
  · have : t = (2, x) := by simpa using ht
    rw [this]
    exact Or.inr (Or.inl ⟨rfl, h.1, h.2⟩)
theorem zGd_op {L : Nat → Int32} {l : List (Int × Int)} {v : Int32} {h : Nat} {s : Int} (g : zGd L l v h) (x : Int32) (ho : zOp s) (hj : zJc s x v = zJr s x v) : (∀ (rest : List (Int × Int)) (st : List Int32), st.length + 1 + h ≤ 32 → cRun L (l ++ ((s, 0) :: rest)) false (x :: st) = cRun L rest false (zJr s x v :: st)) ∧ (∀ st : List Int32, (l ++ [(s, 0)]).foldl (rStep L) (x :: st) = zJr s x v :: st) := by
  have ⟨h1, h2, h3, h4, h5⟩ : ¬ s = 1 ∧ ¬ s = 2 ∧ ¬ s = 59 ∧ ¬ s = 63 ∧ ¬ s = 33 := by
    unfold zOp at ho
    omega
  refine ⟨fun rest st hs => ?_, fun st => ?_⟩
  · rw [g.1 _ (x :: st) (by rw [List.length_cons]; omega)]
    show (if s = 1 ∨ s = 2 then _ else (if s = 59 then v else if s = 63 then _ else if s = 33 then _ else cRun L rest false (zJc s x v :: st))) = _
    rw [if_neg (fun z => z.elim h1 h2), if_neg h3, if_neg h4, if_neg h5, hj]
  · rw [List.foldl_append, g.2.1]
    show (if s = 1 then _ else if s = 2 then _ else (if s = 33 then _ else zJr s x v :: st)) = _
    rw [if_neg h1, if_neg h2, if_neg h5]
theorem zGd_not {L : Nat → Int32} {l : List (Int × Int)} {v : Int32} {h : Nat} (g : zGd L l v h) : zGd L (l ++ [(33, 0)]) (1 - v) h := by
  refine ⟨fun rest st hs => ?_, fun st => ?_, fun t ht => ?_⟩
  · rw [List.append_assoc, g.1 _ st hs]
    show (if (33 : Int) = 1 ∨ (33 : Int) = 2 then _ else (if (33 : Int) = 59 then v else if (33 : Int) = 63 then _ else if (33 : Int) = 33 then cRun L rest false ((1 - v) :: st) else _)) = _
    rw [if_neg (by decide), if_neg (by decide), if_neg (by decide), if_pos rfl]
  · rw [List.foldl_append, g.2.1]
    exact rStep_n L v st (33, 0) rfl
  · rcases List.mem_append.mp ht with q | q
    · exact g.2.2 t q
    · have : t = (33, 0) := by simpa using q
      rw [this]
      exact Or.inr (Or.inr ⟨Or.inl rfl, rfl⟩)
theorem zGd_L {L : Nat → Int32} {g : Int → Int} {n : Int} {op : Int → Bool} {F : Int → Int × Int} {E : Int → List (Int × Int)} {P : Int32 → Prop} {h : Nat} (hE : ∀ a, (F a).1 = 1 → ∃ v, zGd L (E a) v h ∧ P v) (hop : ∀ c, op c = true → zOp c) (hj : ∀ c x v, op c = true → P x → P v → zJc c x v = zJr c x v ∧ P (zJr c x v)) (hm : ∀ a, (F a).1 = 1 → a < (F a).2) : ∀ (k : Nat) (p : Int) (x : Int32), (n - p).toNat ≤ k → (sLp g n op F p).1 = 1 → P x → ∃ w, P w ∧ (∀ (rest : List (Int × Int)) (st : List Int32), st.length + 1 + h ≤ 32 → cRun L (eL g n op F E p ++ rest) false (x :: st) = cRun L rest false (w :: st)) ∧ (∀ st : List Int32, (eL g n op F E p).foldl (rStep L) (x :: st) = w :: st) ∧ ∀ t ∈ eL g n op F E p, zPr t := by
  intro k
  induction k with
  | zero =>
    intro p x hk _ hx
    rw [eL_end (fun q => by omega)]
    exact ⟨x, hx, fun _ _ _ => rfl, fun _ => rfl, fun t ht => by simp at ht⟩
  | succ k ih =>
    intro p x hk hg hx
    by_cases q : p < n ∧ op (g p) = true
    · by_cases hf : (F (p + 1)).1 = 1
      · have h2 := hm _ hf
        have h3 := sk_ge g n (F (p + 1)).2
        rw [sLp_go q.1 q.2 hf (by omega)] at hg
        obtain ⟨v, gv, pv⟩ := hE _ hf
        obtain ⟨j1, j2⟩ := hj (g p) x v q.2 hx pv
        have o3 := hop _ q.2
        obtain ⟨u1, u2⟩ := zGd_op gv x o3 j1
        obtain ⟨w, pw, w1, w2, w3⟩ := ih _ (zJr (g p) x v) (by omega) hg j2
        rw [eL_go q.1 q.2 hf (by omega)]
        refine ⟨w, pw, fun rest st hs => ?_, fun st => ?_, fun t ht => ?_⟩
        · rw [List.append_assoc, List.cons_append, u1 _ st hs, w1 rest st hs]
        · rw [show E (p + 1) ++ (g p, 0) :: eL g n op F E (sk g n (F (p + 1)).2) = (E (p + 1) ++ [(g p, 0)]) ++ eL g n op F E (sk g n (F (p + 1)).2) by simp, List.foldl_append, u2, w2]
        · rcases List.mem_append.mp ht with z | z
          · exact gv.2.2 t z
          · rcases List.mem_cons.mp z with y | y
            · rw [y]
              exact Or.inr (Or.inr ⟨Or.inr o3, rfl⟩)
            · exact w3 t y
      · rw [sLp_bad q.1 q.2 hf] at hg
        exact absurd hg zne1
    · rw [eL_end q]
      exact ⟨x, hx, fun _ _ _ => rfl, fun _ => rfl, fun t ht => by simp at ht⟩
theorem zGd_T {L : Nat → Int32} {g : Int → Int} {n : Int} {op : Int → Bool} {F : Int → Int × Int} {E : Int → List (Int × Int)} {P : Int32 → Prop} {h : Nat} (hE : ∀ a, (F a).1 = 1 → ∃ v, zGd L (E a) v h ∧ P v) (hop : ∀ c, op c = true → zOp c) (hj : ∀ c x v, op c = true → P x → P v → zJc c x v = zJr c x v ∧ P (zJr c x v)) (hm : ∀ a, (F a).1 = 1 → a < (F a).2) (a : Int) (ha : (sTm g n op F a).1 = 1) : ∃ w, zGd L (eTm g n op F E a) w (h + 1) ∧ P w := by
  unfold sTm at ha
  by_cases q : (F a).1 = 1
  · rw [if_pos q] at ha
    obtain ⟨v, gv, pv⟩ := hE _ q
    obtain ⟨w, pw, w1, w2, w3⟩ := zGd_L hE hop hj hm _ _ v (Nat.le_refl _) ha pv
    refine ⟨w, ⟨fun rest st hs => ?_, fun st => ?_, fun t ht => ?_⟩, pw⟩
    · unfold eTm
      rw [List.append_assoc, gv.1 _ st (by omega), w1 rest st (by omega)]
    · unfold eTm
      rw [List.foldl_append, gv.2.1, w2]
    · rcases List.mem_append.mp ht with z | z
      · exact gv.2.2 t z
      · exact w3 t z
  · rw [if_neg q] at ha
    exact absurd ha zne1
def zB6 (v : Int32) : Prop := -1000000 ≤ v.toInt ∧ v.toInt ≤ 1000000
def zBo (v : Int32) : Prop := v = 0 ∨ v = 1
theorem zC6_i (x : Int) : (zC6 x).toInt = (if 1000000 < x then 1000000 else if x < -1000000 then -1000000 else x) := by
  unfold zC6
  by_cases h1 : 1000000 < x
  · rw [if_pos h1]
    decide
  · rw [if_neg h1]
    by_cases h2 : x < -1000000
    · rw [if_pos h2]
      decide
    · rw [if_neg h2]
      exact Int32.toInt_ofInt_of_le (by omega) (by omega)
theorem zC6_b (x : Int) : zB6 (zC6 x) := by
  unfold zB6
  rw [zC6_i]
  by_cases h1 : 1000000 < x
  · rw [if_pos h1]
    omega
  · rw [if_neg h1]
    by_cases h2 : x < -1000000
    · rw [if_pos h2]
      omega
    · rw [if_neg h2]
      omega
theorem sDv1 (g : Int → Int) (p : Int) : sDv g p 1 = g p - 48 := by simp [sDv]
theorem sDv2 (g : Int → Int) (p : Int) : sDv g p 2 = 10 * (g p - 48) + (g (p + 1) - 48) := by simp [sDv]
theorem sDv3 (g : Int → Int) (p : Int) : sDv g p 3 = 10 * (10 * (g p - 48) + (g (p + 1) - 48)) + (g (p + 2) - 48) := by simp [sDv]
theorem sDv4 (g : Int → Int) (p : Int) : sDv g p 4 = 10 * (10 * (10 * (g p - 48) + (g (p + 1) - 48)) + (g (p + 2) - 48)) + (g (p + 3) - 48) := by simp [sDv]
theorem sNv_b {g : Int → Int} {p : Int} (h : (sNum g p).1 = 1) : 0 ≤ sNv g p ∧ sNv g p ≤ 9999 := by
  unfold sNv
  unfold sNum at h ⊢
  by_cases d0 : 48 ≤ g p ∧ g p ≤ 57
  · rw [if_neg (fun q => q d0)] at h ⊢
    by_cases d1 : 48 ≤ g (p + 1) ∧ g (p + 1) ≤ 57
    · rw [if_neg (fun q => q d1)] at h ⊢
      by_cases d2 : 48 ≤ g (p + 2) ∧ g (p + 2) ≤ 57
      · rw [if_neg (fun q => q d2)] at h ⊢
        by_cases d3 : 48 ≤ g (p + 3) ∧ g (p + 3) ≤ 57
        · rw [if_neg (fun q => q d3)] at h ⊢
          by_cases d4 : 48 ≤ g (p + 4) ∧ g (p + 4) ≤ 57
          · rw [if_neg (fun q => q d4)] at h
            exact absurd h zne1
          · rw [if_pos d4]
            show 0 ≤ sDv g p (p + 4 - p).toNat ∧ sDv g p (p + 4 - p).toNat ≤ 9999
            rw [show (p + 4 - p).toNat = 4 by omega, sDv4]
            omega
        · rw [if_pos d3]
          show 0 ≤ sDv g p (p + 3 - p).toNat ∧ sDv g p (p + 3 - p).toNat ≤ 9999
          rw [show (p + 3 - p).toNat = 3 by omega, sDv3]
          omega
      · rw [if_pos d2]
        show 0 ≤ sDv g p (p + 2 - p).toNat ∧ sDv g p (p + 2 - p).toNat ≤ 9999
        rw [show (p + 2 - p).toNat = 2 by omega, sDv2]
        omega
    · rw [if_pos d1]
      show 0 ≤ sDv g p (p + 1 - p).toNat ∧ sDv g p (p + 1 - p).toNat ≤ 9999
      rw [show (p + 1 - p).toNat = 1 by omega, sDv1]
      omega
  · rw [if_pos d0] at h
    exact absurd h zne1
theorem zB6_of {x : Int} (h : 0 ≤ x ∧ x ≤ 9999) : zB6 (Int32.ofInt x) := by
  unfold zB6
  rw [Int32.toInt_ofInt_of_le (by omega) (by omega)]
  omega
theorem zdiv6 {a b : Int32} (ha : zB6 a) (hb : ¬ b.toInt = 0) : (a / b).toInt = a.toInt.tdiv b.toInt := by
  refine Int32.toInt_div_of_ne_left _ _ (fun z => ?_)
  have := ha.1
  rw [z] at this
  exact absurd this (by decide)
theorem zJ43 (x v : Int32) : zJc 43 x v = zC6 (x.toInt + v.toInt) ∧ zJr 43 x v = zC6 (x.toInt + v.toInt) := by simp [zJc, zJr]
theorem zJ45 (x v : Int32) : zJc 45 x v = zC6 (x.toInt - v.toInt) ∧ zJr 45 x v = zC6 (x.toInt - v.toInt) := by simp [zJc, zJr]
theorem zJ42 (x v : Int32) : zJc 42 x v = zC6 (x.toInt * v.toInt) ∧ zJr 42 x v = zC6 (x.toInt * v.toInt) := by simp [zJc, zJr]
theorem zJ47 (x v : Int32) : zJc 47 x v = zC6 (if v.toInt = 0 then 0 else (x / v).toInt) ∧ zJr 47 x v = (if v.toInt = 0 then 0 else zC6 (x.toInt.tdiv v.toInt)) := by simp [zJc, zJr]
theorem zJ61 (x v : Int32) : zJc 61 x v = (if x.toInt = v.toInt then 1 else 0) ∧ zJr 61 x v = (if x.toInt = v.toInt then 1 else 0) := by simp [zJc, zJr]
theorem zJ60 (x v : Int32) : zJc 60 x v = (if x.toInt < v.toInt then 1 else 0) ∧ zJr 60 x v = (if x.toInt < v.toInt then 1 else 0) := by simp [zJc, zJr]
theorem zJ62 (x v : Int32) : zJc 62 x v = (if v.toInt < x.toInt then 1 else 0) ∧ zJr 62 x v = (if v.toInt < x.toInt then 1 else 0) := by simp [zJc, zJr]
theorem zJ_a {c : Int} {x v : Int32} (hc : c = 43 ∨ c = 45 ∨ c = 42 ∨ c = 47) (hx : zB6 x) (hv : zB6 v) : zJc c x v = zJr c x v ∧ zB6 (zJr c x v) := by
  rcases hc with h | h | h | h
  · rw [h, (zJ43 x v).1, (zJ43 x v).2]
    exact ⟨rfl, zC6_b _⟩
  · rw [h, (zJ45 x v).1, (zJ45 x v).2]
    exact ⟨rfl, zC6_b _⟩
  · rw [h, (zJ42 x v).1, (zJ42 x v).2]
    exact ⟨rfl, zC6_b _⟩
  · rw [h, (zJ47 x v).1, (zJ47 x v).2]
    by_cases q : v.toInt = 0
    · rw [if_pos q, if_pos q]
      exact ⟨by decide, by unfold zB6; decide⟩
    · rw [if_neg q, if_neg q, zdiv6 hx q]
      exact ⟨rfl, zC6_b _⟩
theorem zBo_i (p : Prop) [Decidable p] : zBo (if p then 1 else 0) := by
  by_cases q : p
  · rw [if_pos q]
    exact Or.inr rfl
  · rw [if_neg q]
    exact Or.inl rfl
theorem zJ_q {c : Int} (x v : Int32) (hc : c = 61 ∨ c = 60 ∨ c = 62) : zJc c x v = zJr c x v ∧ zBo (zJr c x v) := by
  rcases hc with h | h | h
  · rw [h, (zJ61 x v).1, (zJ61 x v).2]
    exact ⟨rfl, zBo_i _⟩
  · rw [h, (zJ60 x v).1, (zJ60 x v).2]
    exact ⟨rfl, zBo_i _⟩
  · rw [h, (zJ62 x v).1, (zJ62 x v).2]
    exact ⟨rfl, zBo_i _⟩
theorem zJ_d {x v : Int32} (hx : zBo x) (hv : zBo v) : (zJc 38 x v = zJr 38 x v ∧ zBo (zJr 38 x v)) ∧ (zJc 124 x v = zJr 124 x v ∧ zBo (zJr 124 x v)) := by
  unfold zBo
  rcases hx with rfl | rfl <;> rcases hv with rfl | rfl <;> decide
theorem zBo_n {v : Int32} (h : zBo v) : zBo (1 - v) := by
  unfold zBo
  rcases h with rfl | rfl <;> decide
theorem zBo_6 {v : Int32} (h : zBo v) : zB6 v := by
  unfold zB6
  rcases h with rfl | rfl <;> decide
theorem oA_k {c : Int} (h : oM c = true ∨ oP c = true) : zOp c := by
  rw [oM_iff, oP_iff] at h
  unfold zOp
  omega
theorem oC_k {c : Int} (h : oD c = true ∨ oO c = true) : zOp c := by
  rw [oD_iff, oO_iff] at h
  unfold zOp
  omega
theorem eSum_gd {L : Nat → Int32} {g : Int → Int} {n : Int} {K h : Nat} (hA : ∀ a, (sAtm g n K a).1 = 1 → ∃ v, zGd L (eAtm g n K a) v h ∧ zB6 v) (a : Int) (ha : (sSum g n K a).1 = 1) : ∃ v, zGd L (eSum g n K a) v (h + 2) ∧ zB6 v := by
  rw [eSum_two ha]
  have hm := sAtm_mono g n K
  have e : sTm g n oP (sTm g n oM (sAtm g n K)) a = sSum g n K a := by rw [sSum_eq]; exact sTm_two oA_two hm a
  refine zGd_T (fun b hb => ?_) (fun c hc => oA_k (Or.inr hc)) (fun c x v hc hx hv => zJ_a (by rw [oP_iff] at hc; omega) hx hv) (sTm_mono hm) a (by rw [e]; exact ha)
  exact zGd_T hA (fun c hc => oA_k (Or.inl hc)) (fun c x v hc hx hv => zJ_a (by rw [oM_iff] at hc; omega) hx hv) hm b hb
theorem eAtm_gd {L : Nat → Int32} (hL : ∀ i : Nat, i < 6 → zB6 (L i)) {g : Int → Int} {n : Int} : ∀ (K : Nat) (a : Int), (sAtm g n K a).1 = 1 → ∃ v, zGd L (eAtm g n K a) v (2 * K + 1) ∧ zB6 v := by
  have base : ∀ (K : Nat) (a : Int), ¬ g (sk g n a) = 91 → (sAtm g n K a).1 = 1 → ∃ v, zGd L (eAtm g n K a) v 1 ∧ zB6 v := by
    intro K a h91 ha
    by_cases l : g (sk g n a) = 102 ∨ g (sk g n a) = 119 ∨ g (sk g n a) = 121 ∨ g (sk g n a) = 115 ∨ g (sk g n a) = 97 ∨ g (sk g n a) = 109
    · rw [eAtm_let h91 l]
      refine ⟨_, zGd_let ?_, hL _ ?_⟩
      · unfold eLt
        rcases l with l | l | l | l | l | l <;> rw [l] <;> decide
      · unfold eLt
        rcases l with l | l | l | l | l | l <;> rw [l] <;> decide
    · rw [sAtm_num h91 l] at ha
      rw [eAtm_num h91 l]
      exact ⟨_, zGd_num (sNv_b ha), zB6_of (sNv_b ha)⟩
  intro K
  induction K with
  | zero =>
    intro a ha
    by_cases h91 : g (sk g n a) = 91
    · have : sAtm g n 0 a = (0, sk g n a) := by
        show sAt _ _ true sNo _ = _
        unfold sAt
        rw [if_pos h91, if_pos rfl]
      rw [this] at ha
      exact absurd ha zne1
    · exact base 0 a h91 ha
  | succ K ih =>
    intro a ha
    by_cases h91 : g (sk g n a) = 91
    · have e : sAtm g n (K + 1) a = (if (sSum g n K (sk g n a + 1)).1 = 1 then (if g (sk g n (sSum g n K (sk g n a + 1)).2) = 93 then (1, sk g n (sSum g n K (sk g n a + 1)).2 + 1) else (0, sk g n (sSum g n K (sk g n a + 1)).2)) else (0, (sSum g n K (sk g n a + 1)).2)) := by
        show sAt _ _ false (sSum g n K) _ = _
        unfold sAt
        rw [if_pos h91, if_neg (by decide)]
      have e2 : eAtm g n (K + 1) a = eSum g n K (sk g n a + 1) := by
        show eAt _ _ false (eSum g n K) _ = _
        unfold eAt
        rw [if_pos h91, if_neg (by decide)]
      by_cases q : (sSum g n K (sk g n a + 1)).1 = 1
      · obtain ⟨v, g1, g2⟩ := eSum_gd ih _ q
        rw [e2]
        exact ⟨v, zGd_m g1 (by omega), g2⟩
      · rw [e, if_neg q] at ha
        exact absurd ha zne1
    · obtain ⟨v, g1, g2⟩ := base (K + 1) a h91 ha
      exact ⟨v, zGd_m g1 (by omega), g2⟩
theorem eSum_g {L : Nat → Int32} (hL : ∀ i : Nat, i < 6 → zB6 (L i)) {g : Int → Int} {n : Int} (K : Nat) (a : Int) (ha : (sSum g n K a).1 = 1) : ∃ v, zGd L (eSum g n K a) v (2 * K + 3) ∧ zB6 v := eSum_gd (eAtm_gd hL K) a ha
theorem eCmp_g {L : Nat → Int32} (hL : ∀ i : Nat, i < 6 → zB6 (L i)) {g : Int → Int} {n : Int} (K : Nat) (a : Int) (x : Int32) (ha : (sCmp g n (sSum g n K) a).1 = 1) : ∃ w, zBo w ∧ (∀ (rest : List (Int × Int)) (st : List Int32), st.length + 1 + (2 * K + 3) ≤ 32 → cRun L (eCmp g n (eSum g n K) a ++ rest) false (x :: st) = cRun L rest false (w :: st)) ∧ (∀ st : List Int32, (eCmp g n (eSum g n K) a).foldl (rStep L) (x :: st) = w :: st) ∧ ∀ t ∈ eCmp g n (eSum g n K) a, zPr t := by
  unfold sCmp at ha
  by_cases q : g (sk g n a) = 61 ∨ g (sk g n a) = 60 ∨ g (sk g n a) = 62
  · rw [if_pos q] at ha
    obtain ⟨v, g1, g2⟩ := eSum_g hL K _ ha
    obtain ⟨j1, j2⟩ := zJ_q x v q
    have o3 : zOp (g (sk g n a)) := by
      unfold zOp
      omega
    obtain ⟨u1, u2⟩ := zGd_op (s := g (sk g n a)) g1 x o3 j1
    refine ⟨_, j2, fun rest st hs => ?_, fun st => ?_, fun t ht => ?_⟩
    · unfold eCmp
      rw [List.append_assoc]
      exact u1 rest st hs
    · exact u2 st
    · unfold eCmp at ht
      rcases List.mem_append.mp ht with z | z
      · exact g1.2.2 t z
      · have : t = (g (sk g n a), 0) := by simpa using z
        rw [this]
        exact Or.inr (Or.inr ⟨Or.inr o3, rfl⟩)
  · rw [if_neg q] at ha
    exact absurd ha zne1
theorem oD_j {c : Int} {x v : Int32} (hc : oD c = true) (hx : zBo x) (hv : zBo v) : zJc c x v = zJr c x v ∧ zBo (zJr c x v) := by
  rw [oD_iff] at hc
  subst hc
  exact (zJ_d hx hv).1
theorem oO_j {c : Int} {x v : Int32} (hc : oO c = true) (hx : zBo x) (hv : zBo v) : zJc c x v = zJr c x v ∧ zBo (zJr c x v) := by
  rw [oO_iff] at hc
  subst hc
  exact (zJ_d hx hv).2
theorem eS1_g {L : Nat → Int32} {g : Int → Int} {n : Int} {U : Int → Int × Int} {E : Int → List (Int × Int)} {h : Nat} (hE : ∀ a, (U a).1 = 1 → ∃ v, zGd L (E a) v h ∧ zBo v) (hm : ∀ a, (U a).1 = 1 → a < (U a).2) (p : Int) (hp : sk g n p = p) (x : Int32) (hx : zBo x) (hg : (sLp g n oC U p).1 = 1) : ∃ w, zBo w ∧ (∀ (rest : List (Int × Int)) (st : List Int32), st.length + 2 + h ≤ 32 → cRun L (eS1 g n oC oD U E 0 p ++ rest) false (x :: st) = cRun L rest false (w :: st)) ∧ (∀ st : List Int32, (eS1 g n oC oD U E 0 p).foldl (rStep L) (x :: st) = w :: st) ∧ ∀ t ∈ eS1 g n oC oD U E 0 p, zPr t := by
  have g2 := hg
  rw [sLp_two oC_two hm _ _ (Nat.le_refl _) hp] at g2
  rw [eCon_two hm hp hg]
  by_cases t1 : (sLp g n oD U p).1 = 1
  · rw [if_pos t1] at g2
    obtain ⟨w, pw, w1, w2, w3⟩ := zGd_L (L := L) (E := E) hE (fun c hc => oC_k (Or.inl hc)) (fun c x v hc hx hv => oD_j hc hx hv) hm _ p x (Nat.le_refl _) t1 hx
    have hT : ∀ a, (sTm g n oD U a).1 = 1 → ∃ v, zGd L (eTm g n oD U E a) v (h + 1) ∧ zBo v := fun a ha => zGd_T hE (fun c hc => oC_k (Or.inl hc)) (fun c x v hc hx hv => oD_j hc hx hv) hm a ha
    obtain ⟨u, pu, u1, u2, u3⟩ := zGd_L (L := L) (E := eTm g n oD U E) hT (fun c hc => oC_k (Or.inr hc)) (fun c x v hc hx hv => oO_j hc hx hv) (sTm_mono hm) _ (sLp g n oD U p).2 w (Nat.le_refl _) g2 pw
    refine ⟨u, pu, fun rest st hs => ?_, fun st => ?_, fun t ht => ?_⟩
    · rw [List.append_assoc, w1 _ st (by omega), u1 rest st (by omega)]
    · rw [List.foldl_append, w2, u2]
    · rcases List.mem_append.mp ht with z | z
      · exact w3 t z
      · exact u3 t z
  · rw [if_neg t1] at g2
    exact absurd g2 zne1
theorem eUn_g {L : Nat → Int32} (hL : ∀ i : Nat, i < 6 → zB6 (L i)) {g : Int → Int} {n : Int} : ∀ (K : Nat) (a : Int), (sUn g n K a).1 = 1 → ∃ v, zGd L (eUn g n K a) v (2 * K + 4) ∧ zBo v := by
  have base : ∀ (K : Nat) (a : Int), ¬ g (sk g n a) = 33 → ¬ g (sk g n a) = 40 → (sUn g n K a).1 = 1 → ∃ v, zGd L (eUn g n K a) v (2 * K + 4) ∧ zBo v := by
    intro K a h1 h2 ha
    rw [fu_sum h1 h2] at ha
    by_cases q : (sSum g n K a).1 = 1
    · rw [if_pos q] at ha
      obtain ⟨v, g1, g2⟩ := eSum_g hL K a q
      obtain ⟨w, pw, w1, w2, w3⟩ := eCmp_g hL K (sSum g n K a).2 v ha
      rw [eUn_sum h1 h2]
      refine ⟨w, ⟨fun rest st hs => ?_, fun st => ?_, fun t ht => ?_⟩, pw⟩
      · rw [List.append_assoc, g1.1 _ st (by omega), w1 rest st (by omega)]
      · rw [List.foldl_append, g1.2.1, w2]
      · rcases List.mem_append.mp ht with z | z
        · exact g1.2.2 t z
        · exact w3 t z
    · rw [if_neg q] at ha
      exact absurd ha zne1
  intro K
  induction K with
  | zero =>
    intro a ha
    by_cases h1 : g (sk g n a) = 33
    · have : sUn g n 0 a = (0, sk g n a) := by
        show sUn1 _ _ true _ _ _ = _
        unfold sUn1
        rw [if_pos h1, if_pos rfl]
      rw [this] at ha
      exact absurd ha zne1
    · by_cases h2 : g (sk g n a) = 40
      · have : sUn g n 0 a = (0, sk g n a) := by
          show sUn1 _ _ true _ _ _ = _
          unfold sUn1
          rw [if_neg h1, if_pos h2, if_pos rfl]
        rw [this] at ha
        exact absurd ha zne1
      · exact base 0 a h1 h2 ha
  | succ K ih =>
    intro a ha
    by_cases h1 : g (sk g n a) = 33
    · have e : sUn g n (K + 1) a = sUn g n K (sk g n a + 1) := by
        show sUn1 _ _ false _ _ _ = _
        unfold sUn1
        rw [if_pos h1, if_neg (by decide)]
      have e2 : eUn g n (K + 1) a = eUn g n K (sk g n a + 1) ++ [(33, 0)] := by
        show eUn1 _ _ _ _ _ _ _ = _
        unfold eUn1
        rw [if_pos h1]
      rw [e] at ha
      obtain ⟨v, g1, g2⟩ := ih _ ha
      rw [e2]
      exact ⟨1 - v, zGd_m (zGd_not g1) (by omega), zBo_n g2⟩
    · by_cases h2 : g (sk g n a) = 40
      · have e : sUn g n (K + 1) a = sEnd g n 41 (sTm g n oC (sUn g n K) (sk g n a + 1)) := by
          show sUn1 _ _ false _ _ _ = _
          unfold sUn1
          rw [if_neg h1, if_pos h2, if_neg (by decide)]
        have e2 : eUn g n (K + 1) a = eUn g n K (sk g n a + 1) ++ eS1 g n oC oD (sUn g n K) (eUn g n K) 0 (sk g n (sUn g n K (sk g n a + 1)).2) := by
          show eUn1 _ _ _ _ _ _ _ = _
          unfold eUn1
          rw [if_neg h1, if_pos h2]
        rw [e] at ha
        unfold sEnd at ha
        by_cases q : (sTm g n oC (sUn g n K) (sk g n a + 1)).1 = 1
        · unfold sTm at q
          by_cases r : (sUn g n K (sk g n a + 1)).1 = 1
          · rw [if_pos r] at q
            obtain ⟨v, g1, g2⟩ := ih _ r
            obtain ⟨w, pw, w1, w2, w3⟩ := eS1_g ih (sUn_mono g n K) _ (sk_id g n _) v g2 q
            rw [e2]
            refine ⟨w, ⟨fun rest st hs => ?_, fun st => ?_, fun t ht => ?_⟩, pw⟩
            · rw [List.append_assoc, g1.1 _ st (by omega), w1 rest st (by omega)]
            · rw [List.foldl_append, g1.2.1, w2]
            · rcases List.mem_append.mp ht with z | z
              · exact g1.2.2 t z
              · exact w3 t z
          · rw [if_neg r] at q
            exact absurd q zne1
        · rw [if_neg q] at ha
          exact absurd ha zne1
      · exact base (K + 1) a h1 h2 ha
theorem eCon_g {L : Nat → Int32} (hL : ∀ i : Nat, i < 6 → zB6 (L i)) {g : Int → Int} {n : Int} (K : Nat) (a : Int) (ha : (sCon g n K a).1 = 1) : ∃ v, zGd L (eCon g n K a) v (2 * K + 6) ∧ zBo v := by
  unfold sCon sTm at ha
  by_cases r : (sUn g n K a).1 = 1
  · rw [if_pos r] at ha
    obtain ⟨v, g1, g2⟩ := eUn_g hL K a r
    obtain ⟨w, pw, w1, w2, w3⟩ := eS1_g (eUn_g hL K) (sUn_mono g n K) _ (sk_id g n _) v g2 ha
    unfold eCon
    refine ⟨w, ⟨fun rest st hs => ?_, fun st => ?_, fun t ht => ?_⟩, pw⟩
    · rw [List.append_assoc, g1.1 _ st (by omega), w1 rest st (by omega)]
    · rw [List.foldl_append, g1.2.1, w2]
    · rcases List.mem_append.mp ht with z | z
      · exact g1.2.2 t z
      · exact w3 t z
  · rw [if_neg r] at ha
    exact absurd ha zne1
theorem eT2_g {L : Nat → Int32} (hL : ∀ i : Nat, i < 6 → zB6 (L i)) {g : Int → Int} {n : Int} (a : Int) (ha : (sCl2 g n a).1 = 1) (hb : eB2 g n a = true) : ∃ v, zGd L (eT2 g n a) v 18 ∧ zBo v := by
  unfold sCl2 at ha
  unfold eT2
  by_cases q : g (sk g n a) = 33 ∨ g (sk g n a) = 40
  · rw [if_pos q] at ha ⊢
    unfold sQm at ha
    by_cases r : (sCon g n 6 a).1 = 1
    · exact eCon_g hL 6 a r
    · rw [if_neg r] at ha
      exact absurd ha zne1
  · rw [if_neg q] at ha ⊢
    by_cases r : (sSum g n 6 a).1 = 1
    · rw [if_pos r] at ha
      unfold eB2 at hb
      rw [decide_eq_true_iff] at hb
      have c : g (sk g n (sSum g n 6 a).2) = 61 ∨ g (sk g n (sSum g n 6 a).2) = 60 ∨ g (sk g n (sSum g n 6 a).2) = 62 := by omega
      rw [if_pos c] at ha
      unfold sQm at ha
      by_cases y : (sGo g n (sSum g n 6 a).2).1 = 1
      · unfold sGo at y
        by_cases z : (sCmp g n (sSum g n 6) (sSum g n 6 a).2).1 = 1
        · rw [if_pos z] at y
          obtain ⟨v, g1, g2⟩ := eSum_g hL 6 a r
          obtain ⟨w, pw, w1, w2, w3⟩ := eCmp_g hL 6 (sSum g n 6 a).2 v z
          obtain ⟨u, pu, u1, u2, u3⟩ := eS1_g (eUn_g hL 6) (sUn_mono g n 6) _ (sk_id g n _) w pw y
          refine ⟨u, ⟨fun rest st hs => ?_, fun st => ?_, fun t ht => ?_⟩, pu⟩
          · unfold eGo
            rw [List.append_assoc, List.append_assoc, g1.1 _ st (by omega), w1 _ st (by omega), u1 rest st (by omega)]
          · unfold eGo
            rw [List.foldl_append, List.foldl_append, g1.2.1, w2, u2]
          · unfold eGo at ht
            rcases List.mem_append.mp ht with k | k
            · exact g1.2.2 t k
            · rcases List.mem_append.mp k with k | k
              · exact w3 t k
              · exact u3 t k
        · rw [if_neg z] at y
          exact absurd y zne1
      · rw [if_neg y] at ha
        exact absurd ha zne1
    · rw [if_neg r] at ha
      exact absurd ha zne1
theorem eS2_g {L : Nat → Int32} (hL : ∀ i : Nat, i < 6 → zB6 (L i)) {g : Int → Int} {n : Int} (a : Int) (ha : (sCl2 g n a).1 = 1) : ∃ v, zGd L (eS2 g n a) v 15 ∧ zB6 v := by
  unfold sCl2 at ha
  unfold eS2
  by_cases q : g (sk g n a) = 33 ∨ g (sk g n a) = 40
  · rw [if_pos q] at ha ⊢
    unfold sQm at ha
    by_cases r : (sCon g n 6 a).1 = 1
    · rw [if_pos r] at ha
      by_cases y : g (sk g n (sCon g n 6 a).2) = 63
      · rw [if_pos y] at ha
        exact eSum_g hL 6 _ ha
      · rw [if_neg y] at ha
        exact absurd ha zne1
    · rw [if_neg r] at ha
      exact absurd ha zne1
  · rw [if_neg q] at ha ⊢
    by_cases r : (sSum g n 6 a).1 = 1
    · rw [if_pos r] at ha
      by_cases c : g (sk g n (sSum g n 6 a).2) = 61 ∨ g (sk g n (sSum g n 6 a).2) = 60 ∨ g (sk g n (sSum g n 6 a).2) = 62
      · rw [if_pos c] at ha
        have hb : eB2 g n a = true := by
          unfold eB2
          rw [decide_eq_true_iff]
          omega
        rw [if_pos hb]
        unfold sQm at ha
        by_cases y : (sGo g n (sSum g n 6 a).2).1 = 1
        · rw [if_pos y] at ha
          by_cases z : g (sk g n (sGo g n (sSum g n 6 a).2).2) = 63
          · rw [if_pos z] at ha
            exact eSum_g hL 6 _ ha
          · rw [if_neg z] at ha
            exact absurd ha zne1
        · rw [if_neg y] at ha
          exact absurd ha zne1
      · have hb : ¬ eB2 g n a = true := by
          unfold eB2
          rw [decide_eq_true_iff]
          omega
        rw [if_neg hb]
        exact eSum_g hL 6 a r
    · rw [if_neg r] at ha
      exact absurd ha zne1
theorem cRun_skip {L : Nat → Int32} : ∀ (l rest : List (Int × Int)) (st : List Int32), (∀ t ∈ l, ¬ t.1 = 59) → cRun L (l ++ ((59, 0) :: rest)) true st = cRun L rest false st := by
  intro l
  induction l with
  | nil =>
    intro rest st _
    show cRun L rest (decide (¬ (59 : Int) = 59)) st = _
    rfl
  | cons t l ih =>
    intro rest st h
    show cRun L (l ++ ((59, 0) :: rest)) (decide (¬ t.1 = 59)) st = _
    rw [decide_eq_true (h t (List.mem_cons_self ..))]
    exact ih rest st (fun u hu => h u (List.mem_cons_of_mem _ hu))
def rWo (L : Nat → Int32) (g : Int → Int) (n : Int) : List Int → Int32
  | [] => 0
  | a :: as => if eTt g n (eAf g n a) = [] ∨ ¬ (((eTt g n (eAf g n a)).foldl (rStep L) []).headD 0).toInt = 0 then ((eS2 g n (eAf g n a)).foldl (rStep L) []).headD 0 else rWo L g n as
theorem cRun_cl {L : Nat → Int32} (hL : ∀ i : Nat, i < 6 → zB6 (L i)) {g : Int → Int} {n : Int} (a : Int) (as : List Int) (rest : List (Int × Int)) (ha : (sCl2 g n (eAf g n a)).1 = 1) (hr : cRun L rest false [] = rWo L g n as) : cRun L (eCl g n a ++ rest) false [] = rWo L g n (a :: as) := by
  obtain ⟨v, g1, -⟩ := eS2_g hL _ ha
  have hs : ((eS2 g n (eAf g n a)).foldl (rStep L) []).headD 0 = v := by rw [g1.2.1]; rfl
  unfold rWo eCl eCl2
  rw [hs]
  by_cases hb : eB2 g n (eAf g n a) = true
  · obtain ⟨u, u1, u2⟩ := eT2_g hL _ ha hb
    have ht : eTt g n (eAf g n a) = eT2 g n (eAf g n a) := by unfold eTt; rw [if_pos hb]
    have hu : ((eT2 g n (eAf g n a)).foldl (rStep L) []).headD 0 = u := by rw [u1.2.1]; rfl
    have hne : ¬ eT2 g n (eAf g n a) = [] := fun z => by
      have := u1.2.1 []
      rw [z] at this
      exact absurd this (by simp)
    rw [if_pos hb, ht, hu, List.append_assoc, u1.1 _ [] (by decide)]
    show (if (63 : Int) = 1 ∨ (63 : Int) = 2 then _ else (if (63 : Int) = 59 then u else if (63 : Int) = 63 then cRun L ((eS2 g n (eAf g n a) ++ [(59, 0)]) ++ rest) (decide (u.toInt = 0)) [] else _)) = _
    rw [if_neg (by decide), if_neg (by decide), if_pos rfl, List.append_assoc]
    by_cases q : u.toInt = 0
    · rw [if_neg (fun z => z.elim hne (fun y => y q)), decide_eq_true q]
      show cRun L (eS2 g n (eAf g n a) ++ ((59, 0) :: rest)) true [] = _
      rw [cRun_skip _ _ _ (fun t ht => zPr59 (g1.2.2 t ht)), hr]
    · rw [if_pos (Or.inr q), decide_eq_false q]
      show cRun L (eS2 g n (eAf g n a) ++ ((59, 0) :: rest)) false [] = _
      rw [g1.1 _ [] (by decide)]
      show (if (59 : Int) = 1 ∨ (59 : Int) = 2 then _ else (if (59 : Int) = 59 then v else _)) = v
      rw [if_neg (by decide), if_pos rfl]
  · have ht : eTt g n (eAf g n a) = [] := by unfold eTt; rw [if_neg hb]
    rw [if_neg hb, if_pos (Or.inl ht), List.append_assoc]
    show cRun L (eS2 g n (eAf g n a) ++ ((59, 0) :: rest)) false [] = _
    rw [g1.1 _ [] (by decide)]
    show (if (59 : Int) = 1 ∨ (59 : Int) = 2 then _ else (if (59 : Int) = 59 then v else _)) = v
    rw [if_neg (by decide), if_pos rfl]
theorem sCl_af {g : Int → Int} {n a : Int} (h : (sCl g n a).1 = 1) : (sCl2 g n (eAf g n a)).1 = 1 := by
  unfold sCl at h
  unfold eAf
  by_cases q : g (sk g n a) = 121
  · rw [if_pos q] at h
    by_cases r : g (sk g n (sk g n a + 1)) = 58
    · rw [if_pos r] at h
      exact h
    · rw [if_neg r] at h
      exact absurd h zne1
  · rw [if_neg q] at h
    exact absurd h zne1
theorem cRun_ls {L : Nat → Int32} (hL : ∀ i : Nat, i < 6 → zB6 (L i)) {g : Int → Int} {n : Int} : ∀ (k : Nat) (p : Int), (n - p).toNat ≤ k → cRun L (eLw g n p) false [] = rWo L g n (eLs g n p) := by
  intro k
  induction k with
  | zero =>
    intro p hk
    rw [eLw_end (fun z => by omega), eLs_end (fun z => by omega)]
    rfl
  | succ k ih =>
    intro p hk
    by_cases q : p < n ∧ oS (g p) = true
    · by_cases h3 : (sCl g n (p + 1)).1 = 1
      · by_cases h4 : p < sk g n (sCl g n (p + 1)).2
        · rw [eLw_go q.1 q.2 h3 h4, eLs_go q.1 q.2 h3 h4]
          exact cRun_cl hL _ _ _ (sCl_af h3) (ih _ (by omega))
        · rw [eLw, eLs, dif_pos q, dif_pos q, if_pos h3, if_pos h3, dif_neg h4, dif_neg h4]
          rfl
      · rw [eLw, eLs, dif_pos q, dif_pos q, if_neg h3, if_neg h3]
        rfl
    · rw [eLw_end q, eLs_end q]
      rfl
theorem cRun_law {L : Nat → Int32} (hL : ∀ i : Nat, i < 6 → zB6 (L i)) {g : Int → Int} {n : Int} (hc : (sCl g n 0).1 = 1) : cRun L (eLaw g n) false [] = rWo L g n (eCs g n) := by
  unfold eLaw eCs
  exact cRun_cl hL _ _ _ (sCl_af hc) (cRun_ls hL _ _ (Nat.le_refl _))
