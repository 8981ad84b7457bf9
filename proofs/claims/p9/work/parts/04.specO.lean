def zWr (W W' Y F : Nat → Int32) (pn lt sh wd pu mo : Int32) (o : Nat) : Prop := (∀ i : Nat, i < 6 → W' (o + i) = Y i) ∧ (∀ i : Nat, i < 5 → W' (o + (6 + i)) = F i) ∧ (W' (o + 12), W' (o + 13), W' (o + 14)) = (lt, sh, wd) ∧ (W' (o + 15), W' (o + 16), W' (o + 11)) = (pu, mo, pn) ∧ ∀ j : Nat, j < o ∨ o + 17 ≤ j → W' j = W j
theorem zWr_mk {W Y F W1 W2 W3 W4 W5 W6 W7 W8 : Nat → Int32} {p a i1 i2 i3 i4 i5 i6 pn lt sh wd pu mo : Int32} (e1 : W1 = va_cpy Y W (0 : Int32).toNatClampNeg (p : Int32).toNatClampNeg (6 : Int32).toNatClampNeg) (e2 : W2 = va_cpy F W1 (0 : Int32).toNatClampNeg (a : Int32).toNatClampNeg (5 : Int32).toNatClampNeg) (e3 : W3 = upd W2 i1.toNatClampNeg pn) (e4 : W4 = upd W3 i2.toNatClampNeg lt) (e5 : W5 = upd W4 i3.toNatClampNeg sh) (e6 : W6 = upd W5 i4.toNatClampNeg wd) (e7 : W7 = upd W6 i5.toNatClampNeg pu) (e8 : W8 = upd W7 i6.toNatClampNeg mo) (h0 : 0 ≤ p.toInt) (ha : a.toInt = p.toInt + 6) (h1 : i1.toInt = p.toInt + 11) (h2 : i2.toInt = p.toInt + 12) (h3 : i3.toInt = p.toInt + 13) (h4 : i4.toInt = p.toInt + 14) (h5 : i5.toInt = p.toInt + 15) (h6 : i6.toInt = p.toInt + 16) : zWr W W8 Y F pn lt sh wd pu mo p.toInt.toNat := by
  have jp : p.toNatClampNeg = p.toInt.toNat := rfl
  have ja : a.toNatClampNeg = p.toInt.toNat + 6 := by show a.toInt.toNat = _; omega
  have j1 : i1.toNatClampNeg = p.toInt.toNat + 11 := by show i1.toInt.toNat = _; omega
  have j2 : i2.toNatClampNeg = p.toInt.toNat + 12 := by show i2.toInt.toNat = _; omega
  have j3 : i3.toNatClampNeg = p.toInt.toNat + 13 := by show i3.toInt.toNat = _; omega
  have j4 : i4.toNatClampNeg = p.toInt.toNat + 14 := by show i4.toInt.toNat = _; omega
  have j5 : i5.toNatClampNeg = p.toInt.toNat + 15 := by show i5.toInt.toNat = _; omega
  have j6 : i6.toNatClampNeg = p.toInt.toNat + 16 := by show i6.toInt.toNat = _; omega
  rw [show (0 : Int32).toNatClampNeg = 0 by decide, show (6 : Int32).toNatClampNeg = 6 by decide, jp] at e1
  rw [show (0 : Int32).toNatClampNeg = 0 by decide, show (5 : Int32).toNatClampNeg = 5 by decide, ja] at e2
  rw [j1] at e3
  rw [j2] at e4
  rw [j3] at e5
  rw [j4] at e6
  rw [j5] at e7
  rw [j6] at e8
  generalize p.toInt.toNat = o at *
  have low : ∀ j : Nat, ¬ j = o + 11 → ¬ j = o + 12 → ¬ j = o + 13 → ¬ j = o + 14 → ¬ j = o + 15 → ¬ j = o + 16 → W8 j = W2 j := fun j a1 a2 a3 a4 a5 a6 => by
    rw [e8, pk_un a6, e7, pk_un a5, e6, pk_un a4, e5, pk_un a3, e4, pk_un a2, e3, pk_un a1]
  refine ⟨fun i hi => ?_, fun i hi => ?_, ?_, ?_, fun j hj => ?_⟩
  · rw [low _ (by omega) (by omega) (by omega) (by omega) (by omega) (by omega), e2, pk_cpy_out (by omega), e1, pk_cpy_in (by omega) (by omega), show 0 + (o + i - o) = i by omega]
  · rw [low _ (by omega) (by omega) (by omega) (by omega) (by omega) (by omega), e2, pk_cpy_in (by omega) (by omega), show 0 + (o + (6 + i) - (o + 6)) = i by omega]
  · rw [show W8 (o + 12) = lt by rw [e8, pk_un (by omega), e7, pk_un (by omega), e6, pk_un (by omega), e5, pk_un (by omega), e4, pk_us], show W8 (o + 13) = sh by rw [e8, pk_un (by omega), e7, pk_un (by omega), e6, pk_un (by omega), e5, pk_us], show W8 (o + 14) = wd by rw [e8, pk_un (by omega), e7, pk_un (by omega), e6, pk_us]]
  · rw [show W8 (o + 15) = pu by rw [e8, pk_un (by omega), e7, pk_us], show W8 (o + 16) = mo by rw [e8, pk_us], show W8 (o + 11) = pn by rw [e8, pk_un (by omega), e7, pk_un (by omega), e6, pk_un (by omega), e5, pk_un (by omega), e4, pk_un (by omega), e3, pk_us]]
  · rw [low _ (by omega) (by omega) (by omega) (by omega) (by omega) (by omega), e2, pk_cpy_out (by omega), e1, pk_cpy_out (by omega)]
theorem zKc1_of {nb np : Int} {S : zS} {W W' Y F P : Nat → Int32} {pn lt sh wd pu mo : Int32} {o : Nat} (h : zSc nb np S Y F P pn lt sh wd pu mo) (w : zWr W W' Y F pn lt sh wd pu mo o) (hb : nb ≤ 6) (hp : np ≤ 5) : zKc1 nb np S P W' o := by
  obtain ⟨h1, h2, h3, h4, h5⟩ := h
  obtain ⟨w1, w2, w3, w4, -⟩ := w
  refine ⟨fun i hi => ?_, fun i hi => ?_, by rw [h3, w3], by rw [h4, w4], fun i hi => ?_⟩
  · rw [w1 i (by omega)]
    exact h1 i hi
  · rw [w2 i (by omega)]
    exact h2 i hi
  · have e : W' (o + 11) = pn := by
      have := congrArg (fun t : Int32 × Int32 × Int32 => t.2.2) w4
      exact this
    rw [e] at hi
    exact h5 i hi
theorem zKc1_kp {nb np : Int} {K : zS} {W W' P : Nat → Int32} {o : Nat} (h : zKc1 nb np K P W o) (e : ∀ i : Nat, i < 17 → W' (o + i) = W (o + i)) (hb : nb ≤ 6) (hp : np ≤ 5) : zKc1 nb np K P W' o := by
  obtain ⟨h1, h2, h3, h4, h5⟩ := h
  refine ⟨fun i hi => by rw [e _ (by omega)]; exact h1 i hi, fun i hi => by rw [e _ (by omega)]; exact h2 i hi, by rw [e 12 (by decide), e 13 (by decide), e 14 (by decide)]; exact h3, by rw [e 15 (by decide), e 16 (by decide), e 11 (by decide)]; exact h4, fun i hi => ?_⟩
  rw [e 11 (by decide)] at hi
  exact h5 i hi
theorem zKc_keep {nb np : Int} {S : zS} {Ks : List zS} {W W' Y F P : Nat → Int32} {pn lt sh wd pu mo pl pl' cn cn' : Int32} {o : Nat} (h : zSc nb np S Y F P pn lt sh wd pu mo) (k : zKc nb np Ks P W pl cn) (w : zWr W W' Y F pn lt sh wd pu mo o) (hb : nb ≤ 6) (hp : np ≤ 5) (h0 : 0 ≤ pl.toInt) (h9 : pl.toInt ≤ 39) (ho : (o : Int) = 17 * pl.toInt) (hpl : pl'.toInt = (pl.toInt + 1) % 40) (hcn : (cn.toInt < 40 ∧ cn'.toInt = cn.toInt + 1) ∨ (40 ≤ cn.toInt ∧ cn'.toInt = 40)) : zKc nb np (sKeep S Ks) P W' pl' cn' := by
  obtain ⟨k1, k2⟩ := k
  have p' : pl'.toInt.toNat = (pl.toInt.toNat + 1) % 40 := by omega
  have oo : o = 17 * pl.toInt.toNat := by omega
  unfold sKeep
  refine ⟨?_, fun j K hj => ?_⟩
  · rw [List.length_take, List.length_cons]
    omega
  · have hl : j < ((S :: Ks).take 40).length := by
      by_cases q : j < ((S :: Ks).take 40).length
      · exact q
      · rw [List.getElem?_eq_none (by omega)] at hj
        exact absurd hj (by simp)
    rw [List.length_take] at hl
    rw [List.getElem?_take_of_lt (by omega)] at hj
    rw [p']
    cases j with
    | zero =>
      have hj : S = K := by simpa using hj
      rw [← hj, show 17 * (((pl.toInt.toNat + 1) % 40 + 39 - 0) % 40) = o by omega]
      exact zKc1_of h w hb hp
    | succ j =>
      rw [List.getElem?_cons_succ] at hj
      have y := k2 j K hj
      rw [show 17 * (((pl.toInt.toNat + 1) % 40 + 39 - (j + 1)) % 40) = 17 * ((pl.toInt.toNat + 39 - j) % 40) by omega]
      refine zKc1_kp y (fun i hi => w.2.2.2.2 _ ?_) hb hp
      omega
def zRdr (W Y F : Nat → Int32) (pn lt sh wd pu mo : Int32) (o : Nat) : Prop := (∀ i : Nat, i < 6 → Y i = W (o + i)) ∧ (∀ i : Nat, i < 5 → F i = W (o + (6 + i))) ∧ (W (o + 12), W (o + 13), W (o + 14)) = (lt, sh, wd) ∧ (W (o + 15), W (o + 16), W (o + 11)) = (pu, mo, pn)
theorem zRdr_mk {W Y F Y' F' : Nat → Int32} {p a i1 i2 i3 i4 i5 i6 pn lt sh wd pu mo : Int32} (e1 : Y' = va_cpy W Y (p : Int32).toNatClampNeg (0 : Int32).toNatClampNeg (6 : Int32).toNatClampNeg) (e2 : F' = va_cpy W F (a : Int32).toNatClampNeg (0 : Int32).toNatClampNeg (5 : Int32).toNatClampNeg) (e3 : pn = W i1.toNatClampNeg) (e4 : lt = W i2.toNatClampNeg) (e5 : sh = W i3.toNatClampNeg) (e6 : wd = W i4.toNatClampNeg) (e7 : pu = W i5.toNatClampNeg) (e8 : mo = W i6.toNatClampNeg) (h0 : 0 ≤ p.toInt) (ha : a.toInt = p.toInt + 6) (h1 : i1.toInt = p.toInt + 11) (h2 : i2.toInt = p.toInt + 12) (h3 : i3.toInt = p.toInt + 13) (h4 : i4.toInt = p.toInt + 14) (h5 : i5.toInt = p.toInt + 15) (h6 : i6.toInt = p.toInt + 16) : zRdr W Y' F' pn lt sh wd pu mo p.toInt.toNat := by
  have jp : p.toNatClampNeg = p.toInt.toNat := rfl
  have ja : a.toNatClampNeg = p.toInt.toNat + 6 := by show a.toInt.toNat = _; omega
  have j1 : i1.toNatClampNeg = p.toInt.toNat + 11 := by show i1.toInt.toNat = _; omega
  have j2 : i2.toNatClampNeg = p.toInt.toNat + 12 := by show i2.toInt.toNat = _; omega
  have j3 : i3.toNatClampNeg = p.toInt.toNat + 13 := by show i3.toInt.toNat = _; omega
  have j4 : i4.toNatClampNeg = p.toInt.toNat + 14 := by show i4.toInt.toNat = _; omega
  have j5 : i5.toNatClampNeg = p.toInt.toNat + 15 := by show i5.toInt.toNat = _; omega
  have j6 : i6.toNatClampNeg = p.toInt.toNat + 16 := by show i6.toInt.toNat = _; omega
  rw [show (0 : Int32).toNatClampNeg = 0 by decide, show (6 : Int32).toNatClampNeg = 6 by decide, jp] at e1
  rw [show (0 : Int32).toNatClampNeg = 0 by decide, show (5 : Int32).toNatClampNeg = 5 by decide, ja] at e2
  rw [j1] at e3
  rw [j2] at e4
  rw [j3] at e5
  rw [j4] at e6
  rw [j5] at e7
  rw [j6] at e8
  refine ⟨fun i hi => ?_, fun i hi => ?_, by rw [e4, e5, e6], by rw [e7, e8, e3]⟩
  · rw [e1, pk_cpy_in (by omega) (by omega), show p.toInt.toNat + (i - 0) = p.toInt.toNat + i by omega]
  · rw [e2, pk_cpy_in (by omega) (by omega), show p.toInt.toNat + 6 + (i - 0) = p.toInt.toNat + (6 + i) by omega]
theorem zKc_back {nb np : Int} {K : zS} {Ks : List zS} {W Y F P : Nat → Int32} {pn lt sh wd pu mo pl pl' cn cn' : Int32} {o : Nat} (k : zKc nb np (K :: Ks) P W pl cn) (r : zRdr W Y F pn lt sh wd pu mo o) (hb : nb ≤ 6) (hp : np ≤ 5) (h0 : 0 ≤ pl.toInt) (h9 : pl.toInt ≤ 39) (h40 : cn.toInt ≤ 40) (hpl : pl'.toInt = (pl.toInt + 39) % 40) (ho : (o : Int) = 17 * pl'.toInt) (hcn : cn'.toInt = cn.toInt - 1) : zSc nb np K Y F P pn lt sh wd pu mo ∧ zKc nb np Ks P W pl' cn' := by
  obtain ⟨k1, k2⟩ := k
  obtain ⟨r1, r2, r3, r4⟩ := r
  have p' : pl'.toInt.toNat = (pl.toInt.toNat + 39) % 40 := by omega
  rw [List.length_cons] at k1
  refine ⟨?_, by omega, fun j A hj => ?_⟩
  · obtain ⟨a1, a2, a3, a4, a5⟩ := k2 0 K rfl
    rw [show 17 * ((pl.toInt.toNat + 39 - 0) % 40) = o by omega] at a1 a2 a3 a4 a5
    refine ⟨fun i hi => by rw [r1 i (by omega)]; exact a1 i hi, fun i hi => by rw [r2 i (by omega)]; exact a2 i hi, by rw [a3, r3], by rw [a4, r4], fun i hi => a5 i ?_⟩
    have e : W (o + 11) = pn := by
      have := congrArg (fun t : Int32 × Int32 × Int32 => t.2.2) r4
      exact this
    rw [e]
    exact hi
  · have hl : j < Ks.length := by
      by_cases q : j < Ks.length
      · exact q
      · rw [List.getElem?_eq_none (by omega)] at hj
        exact absurd hj (by simp)
    have y := k2 (j + 1) A (by rw [List.getElem?_cons_succ]; exact hj)
    rw [p', show 17 * (((pl.toInt.toNat + 39) % 40 + 39 - j) % 40) = 17 * ((pl.toInt.toNat + 39 - (j + 1)) % 40) by omega]
    exact y
theorem zKc_tb0 {nb np : Int} {S : zS} {Ks : List zS} {W Y F P : Nat → Int32} {pn lt sh wd pu mo pl cn : Int32} (h : zSc nb np S Y F P pn lt sh wd pu mo) (k : zKc nb np Ks P W pl cn) (h0 : cn.toInt = 0) : zSc nb np (Ks.headD S) Y F P pn lt sh wd pu mo ∧ zKc nb np Ks.tail P W pl cn := by
  have e : Ks = [] := List.eq_nil_of_length_eq_zero (by have := k.1; omega)
  rw [e] at k ⊢
  exact ⟨h, k⟩
theorem zKc_tb1 {nb np : Int} {S : zS} {Ks : List zS} {W Y F P : Nat → Int32} {pn lt sh wd pu mo pl pl' cn cn' : Int32} {o : Nat} (k : zKc nb np Ks P W pl cn) (r : zRdr W Y F pn lt sh wd pu mo o) (hb : nb ≤ 6) (hp : np ≤ 5) (h1 : 1 ≤ cn.toInt) (h0 : 0 ≤ pl.toInt) (h9 : pl.toInt ≤ 39) (h40 : cn.toInt ≤ 40) (hpl : pl'.toInt = (pl.toInt + 39) % 40) (ho : (o : Int) = 17 * pl'.toInt) (hcn : cn'.toInt = cn.toInt - 1) : zSc nb np (Ks.headD S) Y F P pn lt sh wd pu mo ∧ zKc nb np Ks.tail P W pl' cn' := by
  cases Ks with
  | nil =>
    have := k.1
    simp at this
    omega
  | cons K Ks => exact zKc_back k r hb hp h0 h9 h40 hpl ho hcn
theorem zKc_P {nb np : Int} {Ks : List zS} {W P P' : Nat → Int32} {pl cn : Int32} {m : Int} (k : zKc nb np Ks P W pl cn) (hm : zMon m Ks) (e : ∀ i : Nat, (i : Int) < 4 * m → P' i = P i) : zKc nb np Ks P' W pl cn := by
  obtain ⟨k1, k2⟩ := k
  refine ⟨k1, fun j K hj => ?_⟩
  obtain ⟨a1, a2, a3, a4, a5⟩ := k2 j K hj
  refine ⟨a1, a2, a3, a4, fun i hi => ?_⟩
  have q := zMon_all hm K (List.mem_of_getElem? hj)
  rw [a4] at q
  have q : (W (17 * ((pl.toInt.toNat + 39 - j) % 40) + 11)).toInt ≤ m := q
  rw [e i (by omega)]
  exact a5 i hi
theorem zSr_eq {nb np : Int} {S : zS} {N N' : Nat → Int32} (h : zSr nb np S N) (e : ∀ i : Nat, i < 97 → N' i = N i) (hb : nb ≤ 6) (hp : np ≤ 5) (h20 : (N 16).toInt ≤ 20) : zSr nb np S N' := by
  obtain ⟨h1, h2, h3, h4, h5⟩ := h
  refine ⟨fun i hi => by rw [e _ (by omega)]; exact h1 i hi, fun i hi => by rw [e _ (by omega)]; exact h2 i hi, by rw [e 11 (by decide), e 12 (by decide), e 13 (by decide)]; exact h3, by rw [e 14 (by decide), e 15 (by decide), e 16 (by decide)]; exact h4, fun i hi => ?_⟩
  rw [e 16 (by decide)] at hi
  rw [e _ (by omega)]
  exact h5 i hi
def zKe (f f' N : Nat → Int32) (ac ac' : Int32) : Prop := ((ac.toInt < 40 ∧ ac'.toInt = ac.toInt + 1) ∨ (40 ≤ ac.toInt ∧ ac'.toInt = 40)) ∧ (∀ i : Nat, i < 97 → f' (97 * (ac'.toInt.toNat - 1) + i) = N i) ∧ ∀ i : Nat, i < 97 * (ac'.toInt.toNat - 1) → f' i = f (i + (if ac.toInt < 40 then 0 else 97))
theorem zKr_keep {nb np : Int} {S : zS} {Ks : List zS} {f f' N : Nat → Int32} {ac ac' : Int32} (h : zSr nb np S N) (k : zKr nb np Ks f ac) (e : zKe f f' N ac ac') (hb : nb ≤ 6) (hp : np ≤ 5) (h40 : ac.toInt ≤ 40) (h20 : (N 16).toInt ≤ 20) (hk : ∀ K ∈ Ks, K.2.2.2.1.2.2.toInt ≤ 20) : zKr nb np (sKeep S Ks) f' ac' := by
  obtain ⟨k1, k2⟩ := k
  obtain ⟨e1, e2, e3⟩ := e
  have lk : ((S :: Ks).take 40).length = min 40 (Ks.length + 1) := by rw [List.length_take, List.length_cons]
  have a1 : ac'.toInt = (min 40 (Ks.length + 1) : Nat) := by
    omega
  unfold sKeep
  refine ⟨by rw [lk]; exact a1, fun j K hj => ?_⟩
  have hl : j < ((S :: Ks).take 40).length := by
    by_cases q : j < ((S :: Ks).take 40).length
    · exact q
    · rw [List.getElem?_eq_none (by omega)] at hj
      exact absurd hj (by simp)
  rw [lk] at hl
  rw [List.getElem?_take_of_lt (by omega)] at hj
  rw [lk]
  cases j with
  | zero =>
    have hj : S = K := by simpa using hj
    rw [← hj]
    refine zSr_eq h (fun i hi => ?_) hb hp h20
    rw [← e2 i hi]
    congr 1
    omega
  | succ j =>
    rw [List.getElem?_cons_succ] at hj
    have y := k2 j K hj
    have y20 := hk K (List.mem_of_getElem? hj)
    rw [y.2.2.2.1] at y20
    refine zSr_eq y (fun i hi => ?_) hb hp y20
    show f' _ = f _
    rw [e3 _ (by omega)]
    congr 1
    by_cases q : ac.toInt < 40
    · rw [if_pos q]
      omega
    · rw [if_neg q]
      omega
theorem zKr_back {nb np : Int} {K : zS} {Ks : List zS} {f N : Nat → Int32} {ac ac' : Int32} (k : zKr nb np (K :: Ks) f ac) (e : ∀ i : Nat, i < 97 → N i = f (97 * ac'.toInt.toNat + i)) (ha : ac'.toInt = ac.toInt - 1) (hb : nb ≤ 6) (hp : np ≤ 5) (hk : K.2.2.2.1.2.2.toInt ≤ 20) : zSr nb np K N ∧ zKr nb np Ks f ac' := by
  obtain ⟨k1, k2⟩ := k
  rw [List.length_cons] at k1 k2
  refine ⟨?_, by omega, fun j A hj => ?_⟩
  · have y := k2 0 K rfl
    have y20 := hk
    rw [y.2.2.2.1] at y20
    refine zSr_eq y (fun i hi => ?_) hb hp y20
    rw [e i hi]
    congr 1
    omega
  · have y := k2 (j + 1) A (by rw [List.getElem?_cons_succ]; exact hj)
    rw [show Ks.length + 1 - 1 - (j + 1) = Ks.length - 1 - j by omega] at y
    exact y
