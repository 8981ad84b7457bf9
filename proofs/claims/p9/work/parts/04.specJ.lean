def zTok (f : Nat → Int32) (lk : Nat) (tk : List (Int × Int)) : Prop := tk.length = lk ∧ ∀ (i : Nat) (t : Int × Int), tk[i]? = some t → f i = eC t ∧ 0 ≤ t.1 ∧ t.1 ≤ 255 ∧ 0 ≤ t.2 ∧ t.2 ≤ 9999
def zStk (K : Nat → Int32) (top : Int) (st : List Int32) : Prop := (st.length : Int) = top ∧ ∀ (j : Nat) (v : Int32), st[j]? = some v → K (st.length - 1 - j) = v
def zAns (L : Nat → Int32) (tk : List (Int × Int)) (K : Nat → Int32) (top sk i : Int32) : Prop := ∃ st : List Int32, zStk K top.toInt st ∧ cRun L tk false [] = cRun L (tk.drop i.toInt.toNat) (decide (¬ sk.toInt = 0)) st
theorem zAns0 {L K : Nat → Int32} {tk : List (Int × Int)} : zAns L tk K 0 0 0 := ⟨[], ⟨rfl, fun j v h => by simp at h⟩, rfl⟩
theorem zAnsT {f : Nat → Int32} {lk : Nat} {tk : List (Int × Int)} {i a s b g : Int32} (h : zTok f lk tk) (h0 : 0 ≤ i.toInt) (hi : i.toInt < (lk : Int)) (e1 : a = f i.toNatClampNeg) (e2 : s = a &&& 255) (e3 : b = f i.toNatClampNeg) (e4 : g = b >>> ((8 : Int32) &&& 31)) : ∃ t : Int × Int, tk.drop i.toInt.toNat = t :: tk.drop (i.toInt.toNat + 1) ∧ s.toInt = t.1 ∧ g.toInt = t.2 ∧ 0 ≤ t.1 ∧ 0 ≤ t.2 := by
  have hl : i.toInt.toNat < tk.length := by rw [h.1]; omega
  obtain ⟨c1, c2, c3, c4, c5⟩ := h.2 i.toInt.toNat tk[i.toInt.toNat] (List.getElem?_eq_getElem hl)
  have ii : i.toNatClampNeg = i.toInt.toNat := rfl
  rw [ii, c1] at e1 e3
  obtain ⟨d1, -⟩ := zdec e1 c2 c3 c4 c5
  obtain ⟨-, d2⟩ := zdec e3 c2 c3 c4 c5
  refine ⟨tk[i.toInt.toNat], List.drop_eq_getElem_cons hl, ?_, ?_, c2, c4⟩
  · rw [e2, d1]
    exact Int32.toInt_ofInt_of_le (by omega) (by omega)
  · rw [e4, d2]
    exact Int32.toInt_ofInt_of_le (by omega) (by omega)
theorem zAnsK {f L K : Nat → Int32} {lk : Nat} {tk : List (Int × Int)} {top sk i a s b g sk' i' : Int32} (h : zAns L tk K top sk i) (ht : zTok f lk tk) (h0 : 0 ≤ i.toInt) (hi : i.toInt < (lk : Int)) (e1 : a = f i.toNatClampNeg) (e2 : s = a &&& 255) (e3 : b = f i.toNatClampNeg) (e4 : g = b >>> ((8 : Int32) &&& 31)) (hs : ¬ sk.toInt = 0) (hk : (¬ sk'.toInt = 0) ↔ ¬ s.toInt = 59) (hi' : i'.toInt = i.toInt + 1) : zAns L tk K top sk' i' := by
  obtain ⟨st, z1, z2⟩ := h
  obtain ⟨t, d1, d2, -, -, -⟩ := zAnsT ht h0 hi e1 e2 e3 e4
  refine ⟨st, z1, ?_⟩
  rw [z2, d1, decide_eq_true hs, show i'.toInt.toNat = i.toInt.toNat + 1 by omega]
  show cRun L _ (decide (¬ t.1 = 59)) st = _
  rw [← d2, decide_eq_decide.mpr hk]
theorem zStk_p {K K' : Nat → Int32} {top top' x : Int32} {st : List Int32} (h : zStk K top.toInt st) (e : K' = upd K top.toNatClampNeg x) (ht : top'.toInt = top.toInt + 1) : zStk K' top'.toInt (x :: st) := by
  have tt : top.toNatClampNeg = top.toInt.toNat := rfl
  have h1 := h.1
  refine ⟨by rw [List.length_cons, ht, ← h1]; rfl, fun j v hj => ?_⟩
  cases j with
  | zero =>
    have hj : x = v := by simpa using hj
    rw [List.length_cons, e, show st.length + 1 - 1 - 0 = top.toNatClampNeg by omega, pk_us, hj]
  | succ j =>
    rw [List.getElem?_cons_succ] at hj
    have hl : j < st.length := by
      by_cases q : j < st.length
      · exact q
      · rw [List.getElem?_eq_none (by omega)] at hj
        exact absurd hj (by simp)
    rw [List.length_cons, e, pk_un (by omega), show st.length + 1 - 1 - (j + 1) = st.length - 1 - j by omega]
    exact h.2 j v hj
theorem zStk_t {K : Nat → Int32} {top : Int} {st : List Int32} (h : zStk K top st) (h1 : 1 ≤ top) : ∃ (x : Int32) (r : List Int32), st = x :: r ∧ K (top.toNat - 1) = x ∧ zStk K (top - 1) r := by
  cases st with
  | nil =>
    have := h.1
    simp at this
    omega
  | cons x r =>
    have hl := h.1
    rw [List.length_cons] at hl
    refine ⟨x, r, rfl, ?_, by omega, fun j v hj => ?_⟩
    · have := h.2 0 x rfl
      rw [List.length_cons] at this
      rw [← this]
      congr 1
      omega
    · have hlj : j < r.length := by
        by_cases q : j < r.length
        · exact q
        · rw [List.getElem?_eq_none (by omega)] at hj
          exact absurd hj (by simp)
      have := h.2 (j + 1) v (by rw [List.getElem?_cons_succ]; exact hj)
      rw [List.length_cons] at this
      rw [← this]
      congr 1
      omega
theorem zStk_u {K K' : Nat → Int32} {top : Int} {st : List Int32} {i x : Int32} (h : zStk K top st) (e : K' = upd K i.toNatClampNeg x) (hi : top ≤ i.toInt) : zStk K' top st := by
  have ii : i.toNatClampNeg = i.toInt.toNat := rfl
  have h1 := h.1
  refine ⟨h.1, fun j v hj => ?_⟩
  have hl : j < st.length := by
    by_cases q : j < st.length
    · exact q
    · rw [List.getElem?_eq_none (by omega)] at hj
      exact absurd hj (by simp)
  rw [e, pk_un (by omega)]
  exact h.2 j v hj
theorem zAnsP {f L K K' : Nat → Int32} {lk : Nat} {tk : List (Int × Int)} {top sk i a s b g top' i' x : Int32} (h : zAns L tk K top sk i) (ht : zTok f lk tk) (h0 : 0 ≤ i.toInt) (hi : i.toInt < (lk : Int)) (e1 : a = f i.toNatClampNeg) (e2 : s = a &&& 255) (e3 : b = f i.toNatClampNeg) (e4 : g = b >>> ((8 : Int32) &&& 31)) (hs : sk.toInt = 0) (hx : (s.toInt = 1 ∧ x = g) ∨ (s.toInt = 2 ∧ x = L g.toNatClampNeg)) (h32 : top.toInt < 32) (eK : K' = upd K top.toNatClampNeg x) (htp : top'.toInt = top.toInt + 1) (hi' : i'.toInt = i.toInt + 1) : zAns L tk K' top' sk i' := by
  obtain ⟨st, z1, z2⟩ := h
  obtain ⟨t, d1, d2, d3, d4, d5⟩ := zAnsT ht h0 hi e1 e2 e3 e4
  refine ⟨x :: st, zStk_p z1 eK htp, ?_⟩
  have hl := z1.1
  rw [z2, d1, decide_eq_false (fun z => z hs), show i'.toInt.toNat = i.toInt.toNat + 1 by omega]
  show (if t.1 = 1 ∨ t.1 = 2 then (if 32 ≤ st.length then 0 else cRun L _ false ((if t.1 = 1 then Int32.ofInt t.2 else L t.2.toNat) :: st)) else _) = _
  rw [if_pos (by omega), if_neg (by omega)]
  have y : (if t.1 = 1 then Int32.ofInt t.2 else L t.2.toNat) = x := by
    rcases hx with q | q
    · rw [if_pos (by omega), q.2]
      exact (zof d3).symm
    · rw [if_neg (by omega), q.2]
      congr 1
      rw [← d3]
      rfl
  rw [y]
theorem zAnsF {f L K : Nat → Int32} {lk : Nat} {tk : List (Int × Int)} {top sk i a s b g : Int32} (h : zAns L tk K top sk i) (ht : zTok f lk tk) (h0 : 0 ≤ i.toInt) (hi : i.toInt < (lk : Int)) (e1 : a = f i.toNatClampNeg) (e2 : s = a &&& 255) (e3 : b = f i.toNatClampNeg) (e4 : g = b >>> ((8 : Int32) &&& 31)) (hs : sk.toInt = 0) (hx : s.toInt = 1 ∨ s.toInt = 2) (h32 : 32 ≤ top.toInt) : (0 : Int32) = cRun L tk false [] := by
  obtain ⟨st, z1, z2⟩ := h
  obtain ⟨t, d1, d2, d3, d4, d5⟩ := zAnsT ht h0 hi e1 e2 e3 e4
  have hl := z1.1
  rw [z2, d1, decide_eq_false (fun z => z hs)]
  show _ = (if t.1 = 1 ∨ t.1 = 2 then (if 32 ≤ st.length then 0 else _) else _)
  rw [if_pos (by omega), if_pos (by omega)]
theorem zAns1 {f L K : Nat → Int32} {lk : Nat} {tk : List (Int × Int)} {top sk i a s b g : Int32} (h : zAns L tk K top sk i) (ht : zTok f lk tk) (h0 : 0 ≤ i.toInt) (hi : i.toInt < (lk : Int)) (e1 : a = f i.toNatClampNeg) (e2 : s = a &&& 255) (e3 : b = f i.toNatClampNeg) (e4 : g = b >>> ((8 : Int32) &&& 31)) (hs : sk.toInt = 0) (hx : ¬ s.toInt = 1 ∧ ¬ s.toInt = 2) : (top.toInt < 1 → (0 : Int32) = cRun L tk false []) ∧ (1 ≤ top.toInt → ∃ (x : Int32) (r : List Int32), K (top.toInt.toNat - 1) = x ∧ zStk K (top.toInt - 1) r ∧ cRun L tk false [] = (if s.toInt = 59 then x else if s.toInt = 63 then cRun L (tk.drop (i.toInt.toNat + 1)) (decide (x.toInt = 0)) r else if s.toInt = 33 then cRun L (tk.drop (i.toInt.toNat + 1)) false ((1 - x) :: r) else match r with | [] => 0 | y :: q => cRun L (tk.drop (i.toInt.toNat + 1)) false (zJc s.toInt y x :: q))) := by
  obtain ⟨st, z1, z2⟩ := h
  obtain ⟨t, d1, d2, d3, d4, d5⟩ := zAnsT ht h0 hi e1 e2 e3 e4
  have hl := z1.1
  rw [z2, d1, decide_eq_false (fun z => z hs)]
  constructor
  · intro q
    have : st = [] := List.eq_nil_of_length_eq_zero (by omega)
    rw [this]
    show _ = (if t.1 = 1 ∨ t.1 = 2 then _ else 0)
    rw [if_neg (by omega)]
  · intro q
    obtain ⟨x, r, y1, y2, y3⟩ := zStk_t z1 q
    refine ⟨x, r, y2, y3, ?_⟩
    rw [y1]
    show (if t.1 = 1 ∨ t.1 = 2 then _ else (if t.1 = 59 then x else if t.1 = 63 then _ else if t.1 = 33 then _ else _)) = _
    rw [if_neg (by omega), d2]
    rfl
theorem zAnsA {f L K : Nat → Int32} {lk : Nat} {tk : List (Int × Int)} {top sk i a s b g j r : Int32} (h : zAns L tk K top sk i) (ht : zTok f lk tk) (h0 : 0 ≤ i.toInt) (hi : i.toInt < (lk : Int)) (e1 : a = f i.toNatClampNeg) (e2 : s = a &&& 255) (e3 : b = f i.toNatClampNeg) (e4 : g = b >>> ((8 : Int32) &&& 31)) (hs : sk.toInt = 0) (hx : s.toInt = 59) (h1 : 1 ≤ top.toInt) (hj : j.toInt = top.toInt - 1) (er : r = K j.toNatClampNeg) : r = cRun L tk false [] := by
  obtain ⟨x, q, y1, y2, y3⟩ := (zAns1 h ht h0 hi e1 e2 e3 e4 hs (by omega)).2 h1
  have jj : j.toNatClampNeg = j.toInt.toNat := rfl
  rw [y3, if_pos hx, ← y1, er]
  congr 1
  omega
theorem zAnsC {f L K : Nat → Int32} {lk : Nat} {tk : List (Int × Int)} {top sk i a s b g top' x sk' i' : Int32} (h : zAns L tk K top sk i) (ht : zTok f lk tk) (h0 : 0 ≤ i.toInt) (hi : i.toInt < (lk : Int)) (e1 : a = f i.toNatClampNeg) (e2 : s = a &&& 255) (e3 : b = f i.toNatClampNeg) (e4 : g = b >>> ((8 : Int32) &&& 31)) (hs : sk.toInt = 0) (hx : s.toInt = 63) (h1 : 1 ≤ top.toInt) (htp : top'.toInt = top.toInt - 1) (er : x = K top'.toNatClampNeg) (hk : (¬ sk'.toInt = 0) ↔ x.toInt = 0) (hi' : i'.toInt = i.toInt + 1) : zAns L tk K top' sk' i' := by
  obtain ⟨w, q, y1, y2, y3⟩ := (zAns1 h ht h0 hi e1 e2 e3 e4 hs (by omega)).2 h1
  have jj : top'.toNatClampNeg = top'.toInt.toNat := rfl
  have ew : x = w := by
    rw [er, ← y1]
    congr 1
    omega
  refine ⟨q, by rw [htp]; exact y2, ?_⟩
  rw [y3, if_neg (by omega), if_pos hx, ← ew, show i'.toInt.toNat = i.toInt.toNat + 1 by omega, decide_eq_decide.mpr hk]
theorem zAnsN {f L K K' : Nat → Int32} {lk : Nat} {tk : List (Int × Int)} {top sk i a s b g j k x y i' : Int32} (h : zAns L tk K top sk i) (ht : zTok f lk tk) (h0 : 0 ≤ i.toInt) (hi : i.toInt < (lk : Int)) (e1 : a = f i.toNatClampNeg) (e2 : s = a &&& 255) (e3 : b = f i.toNatClampNeg) (e4 : g = b >>> ((8 : Int32) &&& 31)) (hs : sk.toInt = 0) (hx : s.toInt = 33) (h1 : 1 ≤ top.toInt) (hj : j.toInt = top.toInt - 1) (hk : k.toInt = top.toInt - 1) (er : x = K k.toNatClampNeg) (ey : y = 1 - x) (eK : K' = upd K j.toNatClampNeg y) (hi' : i'.toInt = i.toInt + 1) : zAns L tk K' top sk i' := by
  obtain ⟨w, q, y1, y2, y3⟩ := (zAns1 h ht h0 hi e1 e2 e3 e4 hs (by omega)).2 h1
  have jj : k.toNatClampNeg = k.toInt.toNat := rfl
  have ew : x = w := by
    rw [er, ← y1]
    congr 1
    omega
  refine ⟨y :: q, zStk_p (by rw [hj]; exact y2) eK (by omega), ?_⟩
  rw [y3, if_neg (by omega), if_neg (by omega), if_pos hx, ← ew, ← ey, show i'.toInt.toNat = i.toInt.toNat + 1 by omega, decide_eq_false (fun z => z hs)]
theorem zAnsO {f L K K' : Nat → Int32} {lk : Nat} {tk : List (Int × Int)} {top sk i a s b g top' j j2 x y z i' : Int32} (h : zAns L tk K top sk i) (ht : zTok f lk tk) (h0 : 0 ≤ i.toInt) (hi : i.toInt < (lk : Int)) (e1 : a = f i.toNatClampNeg) (e2 : s = a &&& 255) (e3 : b = f i.toNatClampNeg) (e4 : g = b >>> ((8 : Int32) &&& 31)) (hs : sk.toInt = 0) (hx : ¬ s.toInt = 1 ∧ ¬ s.toInt = 2 ∧ ¬ s.toInt = 59 ∧ ¬ s.toInt = 63 ∧ ¬ s.toInt = 33) (h1 : 2 ≤ top.toInt) (htp : top'.toInt = top.toInt - 1) (hj : j.toInt = top'.toInt - 1) (hj2 : j2.toInt = top'.toInt - 1) (ey : y = K j2.toNatClampNeg) (ex : x = K top'.toNatClampNeg) (ez : z = zJc s.toInt y x) (eK : K' = upd K j.toNatClampNeg z) (hi' : i'.toInt = i.toInt + 1) : zAns L tk K' top' sk i' := by
  obtain ⟨w, q, y1, y2, y3⟩ := (zAns1 h ht h0 hi e1 e2 e3 e4 hs ⟨hx.1, hx.2.1⟩).2 (by omega)
  obtain ⟨v, r, u1, u2, u3⟩ := zStk_t y2 (by omega)
  have j1 : top'.toNatClampNeg = top'.toInt.toNat := rfl
  have j3 : j2.toNatClampNeg = j2.toInt.toNat := rfl
  have ew : x = w := by
    rw [ex, ← y1]
    congr 1
    omega
  have ev : y = v := by
    rw [ey, ← u2]
    congr 1
    omega
  refine ⟨z :: r, zStk_p (by rw [hj, htp]; exact u3) eK (by omega), ?_⟩
  rw [y3, if_neg hx.2.2.1, if_neg hx.2.2.2.1, if_neg hx.2.2.2.2, u1]
  show cRun L _ false (zJc s.toInt v w :: r) = _
  rw [← ew, ← ev, ← ez, show i'.toInt.toNat = i.toInt.toNat + 1 by omega, decide_eq_false (fun z => z hs)]
theorem zAnsO1 {f L K : Nat → Int32} {lk : Nat} {tk : List (Int × Int)} {top sk i a s b g : Int32} (h : zAns L tk K top sk i) (ht : zTok f lk tk) (h0 : 0 ≤ i.toInt) (hi : i.toInt < (lk : Int)) (e1 : a = f i.toNatClampNeg) (e2 : s = a &&& 255) (e3 : b = f i.toNatClampNeg) (e4 : g = b >>> ((8 : Int32) &&& 31)) (hs : sk.toInt = 0) (hx : ¬ s.toInt = 1 ∧ ¬ s.toInt = 2 ∧ ¬ s.toInt = 59 ∧ ¬ s.toInt = 63 ∧ ¬ s.toInt = 33) (h1 : 1 ≤ top.toInt) (h2 : top.toInt < 2) : (0 : Int32) = cRun L tk false [] := by
  obtain ⟨w, q, y1, y2, y3⟩ := (zAns1 h ht h0 hi e1 e2 e3 e4 hs ⟨hx.1, hx.2.1⟩).2 h1
  have hq : q = [] := List.eq_nil_of_length_eq_zero (by have := y2.1; omega)
  rw [y3, if_neg hx.2.2.1, if_neg hx.2.2.2.1, if_neg hx.2.2.2.2, hq]
theorem zAnsE {f L K : Nat → Int32} {lk : Nat} {tk : List (Int × Int)} {top sk i : Int32} (h : zAns L tk K top sk i) (ht : zTok f lk tk) (hi : (lk : Int) ≤ i.toInt) : (0 : Int32) = cRun L tk false [] := by
  obtain ⟨st, z1, z2⟩ := h
  rw [z2, List.drop_eq_nil_of_le (by rw [ht.1]; omega)]
  unfold cRun
  rfl
