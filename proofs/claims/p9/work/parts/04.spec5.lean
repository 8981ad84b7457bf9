/-! a court's text: items -/
theorem sNm2_mono (g : Int → Int) (hi p : Int) (h : (sNm2 g hi p).1 = 1) : p < (sNm2 g hi p).2 := by
  unfold sNm2 at h ⊢
  by_cases d0 : 48 ≤ g p ∧ g p ≤ 57
  · rw [if_neg (fun q => q d0)] at h ⊢
    by_cases d1 : 48 ≤ g (p + 1) ∧ g (p + 1) ≤ 57
    · rw [if_neg (fun q => q d1)] at h ⊢
      by_cases d2 : 48 ≤ g (p + 2) ∧ g (p + 2) ≤ 57
      · rw [if_pos d2] at h
        exact absurd h zne1
      · rw [if_neg d2] at h ⊢
        by_cases d3 : 10 * (g p - 48) + (g (p + 1) - 48) ≤ hi
        · rw [if_pos d3]
          show p < p + 2
          omega
        · rw [if_neg d3] at h
          exact absurd h zne1
    · rw [if_pos d1] at h ⊢
      by_cases d3 : g p - 48 ≤ hi
      · rw [if_pos d3]
        show p < p + 1
        omega
      · rw [if_neg d3] at h
        exact absurd h zne1
  · rw [if_pos d0] at h
    exact absurd h zne1
def cIt (cl : Nat) (c : Int) : Int32 :=
  match cl with
  | 0 => if c = 112 then 0 else if c = 102 then 1 else if c = 100 then 2 else -1
  | 1 => if c = 102 then 0 else if c = 100 then 1 else if c = 119 then 2 else if c = 121 then 3 else -1
  | _ => if c = 115 then 0 else if c = 102 then 1 else if c = 97 then 2 else if c = 107 then 3 else -1
def cHi (cl : Nat) (k : Int32) : Int :=
  match cl with
  | 0 => if k = 0 then 99 else 9
  | 1 => if k = 1 then 99 else 9
  | _ => if k = 1 then 30 else if k = 3 then 3 else 9
def cBt (hd k : Int32) : Int32 := (hd >>> (k &&& 31)) &&& 1
def cOr (hd k : Int32) : Int32 := hd ||| (1 <<< (k &&& 31))
theorem cIt_no (cl : Nat) {c : Int} (h : c < 97) : cIt cl c = -1 := by
  match cl with
  | 0 => show (if c = 112 then (0 : Int32) else if c = 102 then 1 else if c = 100 then 2 else -1) = -1; rw [if_neg (by omega), if_neg (by omega), if_neg (by omega)]
  | 1 => show (if c = 102 then (0 : Int32) else if c = 100 then 1 else if c = 119 then 2 else if c = 121 then 3 else -1) = -1; rw [if_neg (by omega), if_neg (by omega), if_neg (by omega), if_neg (by omega)]
  | k + 2 => show (if c = 115 then (0 : Int32) else if c = 102 then 1 else if c = 97 then 2 else if c = 107 then 3 else -1) = -1; rw [if_neg (by omega), if_neg (by omega), if_neg (by omega), if_neg (by omega)]
/-- what is read of an item whose letter stands at p -/
def sIt1 (g : Int → Int) (n : Int) (cl : Nat) (p : Int) : Int × Int := sNm2 g (cHi cl (cIt cl (g p))) (sk g n (p + 1))
def sIts (g : Int → Int) (n : Int) (cl : Nat) (hd : Int32) (a : Int) : Int × Int :=
  if _h : sk g n a < n ∧ ¬ cIt cl (g (sk g n a)) = -1 ∧ ¬ cBt hd (cIt cl (g (sk g n a))) = 1 then
    if (sIt1 g n cl (sk g n a)).1 = 1 then
      (if _h2 : a < (sIt1 g n cl (sk g n a)).2 then sIts g n cl (cOr hd (cIt cl (g (sk g n a)))) (sIt1 g n cl (sk g n a)).2 else (1, sk g n a))
    else (0, (sIt1 g n cl (sk g n a)).2)
  else (1, sk g n a)
termination_by (n - a).toNat
decreasing_by
  have := sk_ge g n a
  omega
theorem sIts_end {g : Int → Int} {n : Int} {cl : Nat} {hd : Int32} {a : Int} (h : ¬ (sk g n a < n ∧ ¬ cIt cl (g (sk g n a)) = -1 ∧ ¬ cBt hd (cIt cl (g (sk g n a))) = 1)) : sIts g n cl hd a = (1, sk g n a) := by
  rw [sIts, dif_neg h]
theorem sIts_bad {g : Int → Int} {n : Int} {cl : Nat} {hd : Int32} {a : Int} (h : sk g n a < n ∧ ¬ cIt cl (g (sk g n a)) = -1 ∧ ¬ cBt hd (cIt cl (g (sk g n a))) = 1) (h2 : ¬ (sIt1 g n cl (sk g n a)).1 = 1) : sIts g n cl hd a = (0, (sIt1 g n cl (sk g n a)).2) := by
  rw [sIts, dif_pos h, if_neg h2]
theorem sIts_go {g : Int → Int} {n : Int} {cl : Nat} {hd : Int32} {a : Int} (h : sk g n a < n ∧ ¬ cIt cl (g (sk g n a)) = -1 ∧ ¬ cBt hd (cIt cl (g (sk g n a))) = 1) (h2 : (sIt1 g n cl (sk g n a)).1 = 1) (h3 : a < (sIt1 g n cl (sk g n a)).2) : sIts g n cl hd a = sIts g n cl (cOr hd (cIt cl (g (sk g n a)))) (sIt1 g n cl (sk g n a)).2 := by
  rw [sIts, dif_pos h, if_pos h2, dif_pos h3]
theorem sIts_sk (g : Int → Int) (n : Int) (cl : Nat) (hd : Int32) (a : Int) : sIts g n cl hd (sk g n a) = sIts g n cl hd a := by
  have e := sk_id g n a
  by_cases h : sk g n a < n ∧ ¬ cIt cl (g (sk g n a)) = -1 ∧ ¬ cBt hd (cIt cl (g (sk g n a))) = 1
  · by_cases h2 : (sIt1 g n cl (sk g n a)).1 = 1
    · have h4 : sk g n a < (sIt1 g n cl (sk g n a)).2 := by
        have k := sk_ge g n (sk g n a + 1)
        have m : sk g n (sk g n a + 1) < (sIt1 g n cl (sk g n a)).2 := sNm2_mono g _ _ h2
        omega
      have k := sk_ge g n a
      rw [sIts_go (a := a) h h2 (by omega), sIts_go (a := sk g n a) (by rw [e]; exact h) (by rw [e]; exact h2) (by rw [e]; exact h4), e]
    · rw [sIts_bad (a := a) h h2, sIts_bad (a := sk g n a) (by rw [e]; exact h) (by rw [e]; exact h2), e]
  · rw [sIts_end (a := a) h, sIts_end (a := sk g n a) (by rw [e]; exact h), e]
/-- the place of a letter in a table -/
def zNt (t : Nat) (i c : Int32) : Prop := ∀ j : Nat, (j : Int) < i.toInt → ¬ (zTl t j).toInt = c.toInt
theorem zNt0 {t : Nat} {c : Int32} : zNt t 0 c := fun j h => by
  rw [show (0 : Int32).toInt = 0 from by decide] at h
  omega
theorem zNtS {t : Nat} {i i' c v : Int32} (h : zNt t i c) (x : v = zTl t i.toNatClampNeg) (hc : ¬ v.toInt = c.toInt) (h0 : 0 ≤ i.toInt) (e : i'.toInt = i.toInt + 1) : zNt t i' c := fun j hj => by
  by_cases q : (j : Int) < i.toInt
  · exact h j q
  · have : j = i.toNatClampNeg := by show j = i.toInt.toNat; omega
    rw [this, ← x]
    exact hc
theorem zi32 {i : Int32} {k : Nat} (h : i.toNatClampNeg = k) (h0 : 0 ≤ i.toInt) : i.toInt = (k : Int) := by
  have : i.toInt.toNat = k := h
  omega
theorem zpl1 {i c v : Int32} (x : v = zTl 1 i.toNatClampNeg) (h0 : 0 ≤ i.toInt) (h : i.toInt < 3) (hc : v.toInt = c.toInt) : i = cIt 0 c.toInt := by
  have hk : i.toNatClampNeg < 3 := by show i.toInt.toNat < 3; omega
  rw [← hc, x]
  generalize hj : i.toNatClampNeg = k at hk
  have e := zi32 hj h0
  match k, hk with
  | 0, _ => exact Int32.toInt_inj.mp (e.trans (by decide))
  | 1, _ => exact Int32.toInt_inj.mp (e.trans (by decide))
  | 2, _ => exact Int32.toInt_inj.mp (e.trans (by decide))
  | k + 3, h => exact absurd h (by omega)
theorem zpl4 {i c v : Int32} (x : v = zTl 4 i.toNatClampNeg) (h0 : 0 ≤ i.toInt) (h : i.toInt < 4) (hc : v.toInt = c.toInt) : i = cIt 1 c.toInt := by
  have hk : i.toNatClampNeg < 4 := by show i.toInt.toNat < 4; omega
  rw [← hc, x]
  generalize hj : i.toNatClampNeg = k at hk
  have e := zi32 hj h0
  match k, hk with
  | 0, _ => exact Int32.toInt_inj.mp (e.trans (by decide))
  | 1, _ => exact Int32.toInt_inj.mp (e.trans (by decide))
  | 2, _ => exact Int32.toInt_inj.mp (e.trans (by decide))
  | 3, _ => exact Int32.toInt_inj.mp (e.trans (by decide))
  | k + 4, h => exact absurd h (by omega)
theorem zpl7 {i c v : Int32} (x : v = zTl 7 i.toNatClampNeg) (h0 : 0 ≤ i.toInt) (h : i.toInt < 4) (hc : v.toInt = c.toInt) : i = cIt 2 c.toInt := by
  have hk : i.toNatClampNeg < 4 := by show i.toInt.toNat < 4; omega
  rw [← hc, x]
  generalize hj : i.toNatClampNeg = k at hk
  have e := zi32 hj h0
  match k, hk with
  | 0, _ => exact Int32.toInt_inj.mp (e.trans (by decide))
  | 1, _ => exact Int32.toInt_inj.mp (e.trans (by decide))
  | 2, _ => exact Int32.toInt_inj.mp (e.trans (by decide))
  | 3, _ => exact Int32.toInt_inj.mp (e.trans (by decide))
  | k + 4, h => exact absurd h (by omega)
theorem zpn1 {i c : Int32} (h : zNt 1 i c) (hi : 3 ≤ i.toInt) : (-1 : Int32) = cIt 0 c.toInt := by
  have h0 : ¬ (112 : Int) = c.toInt := h 0 (by omega)
  have h1 : ¬ (102 : Int) = c.toInt := h 1 (by omega)
  have h2 : ¬ (100 : Int) = c.toInt := h 2 (by omega)
  show _ = (if c.toInt = 112 then (0 : Int32) else if c.toInt = 102 then 1 else if c.toInt = 100 then 2 else -1)
  rw [if_neg (by omega), if_neg (by omega), if_neg (by omega)]
theorem zpn4 {i c : Int32} (h : zNt 4 i c) (hi : 4 ≤ i.toInt) : (-1 : Int32) = cIt 1 c.toInt := by
  have h0 : ¬ (102 : Int) = c.toInt := h 0 (by omega)
  have h1 : ¬ (100 : Int) = c.toInt := h 1 (by omega)
  have h2 : ¬ (119 : Int) = c.toInt := h 2 (by omega)
  have h3 : ¬ (121 : Int) = c.toInt := h 3 (by omega)
  show _ = (if c.toInt = 102 then (0 : Int32) else if c.toInt = 100 then 1 else if c.toInt = 119 then 2 else if c.toInt = 121 then 3 else -1)
  rw [if_neg (by omega), if_neg (by omega), if_neg (by omega), if_neg (by omega)]
theorem zpn7 {i c : Int32} (h : zNt 7 i c) (hi : 4 ≤ i.toInt) : (-1 : Int32) = cIt 2 c.toInt := by
  have h0 : ¬ (115 : Int) = c.toInt := h 0 (by omega)
  have h1 : ¬ (102 : Int) = c.toInt := h 1 (by omega)
  have h2 : ¬ (97 : Int) = c.toInt := h 2 (by omega)
  have h3 : ¬ (107 : Int) = c.toInt := h 3 (by omega)
  show _ = (if c.toInt = 115 then (0 : Int32) else if c.toInt = 102 then 1 else if c.toInt = 97 then 2 else if c.toInt = 107 then 3 else -1)
  rw [if_neg (by omega), if_neg (by omega), if_neg (by omega), if_neg (by omega)]
/-- the bounds' table -/
theorem zhi2 {k v : Int32} (x : v = zTl 2 k.toNatClampNeg) (h0 : 0 ≤ k.toInt) (h : k.toInt < 3) : v.toInt = cHi 0 k := by
  have hk : k.toNatClampNeg < 3 := by show k.toInt.toNat < 3; omega
  rw [x]
  generalize hj : k.toNatClampNeg = j at hk
  have e := zi32 hj h0
  match j, hk with
  | 0, _ => rw [show k = 0 from Int32.toInt_inj.mp (e.trans (by decide))]; decide
  | 1, _ => rw [show k = 1 from Int32.toInt_inj.mp (e.trans (by decide))]; decide
  | 2, _ => rw [show k = 2 from Int32.toInt_inj.mp (e.trans (by decide))]; decide
  | j + 3, h => exact absurd h (by omega)
theorem zhi5 {k v : Int32} (x : v = zTl 5 k.toNatClampNeg) (h0 : 0 ≤ k.toInt) (h : k.toInt < 4) : v.toInt = cHi 1 k := by
  have hk : k.toNatClampNeg < 4 := by show k.toInt.toNat < 4; omega
  rw [x]
  generalize hj : k.toNatClampNeg = j at hk
  have e := zi32 hj h0
  match j, hk with
  | 0, _ => rw [show k = 0 from Int32.toInt_inj.mp (e.trans (by decide))]; decide
  | 1, _ => rw [show k = 1 from Int32.toInt_inj.mp (e.trans (by decide))]; decide
  | 2, _ => rw [show k = 2 from Int32.toInt_inj.mp (e.trans (by decide))]; decide
  | 3, _ => rw [show k = 3 from Int32.toInt_inj.mp (e.trans (by decide))]; decide
  | j + 4, h => exact absurd h (by omega)
theorem zhi8 {k v : Int32} (x : v = zTl 8 k.toNatClampNeg) (h0 : 0 ≤ k.toInt) (h : k.toInt < 4) : v.toInt = cHi 2 k := by
  have hk : k.toNatClampNeg < 4 := by show k.toInt.toNat < 4; omega
  rw [x]
  generalize hj : k.toNatClampNeg = j at hk
  have e := zi32 hj h0
  match j, hk with
  | 0, _ => rw [show k = 0 from Int32.toInt_inj.mp (e.trans (by decide))]; decide
  | 1, _ => rw [show k = 1 from Int32.toInt_inj.mp (e.trans (by decide))]; decide
  | 2, _ => rw [show k = 2 from Int32.toInt_inj.mp (e.trans (by decide))]; decide
  | 3, _ => rw [show k = 3 from Int32.toInt_inj.mp (e.trans (by decide))]; decide
  | j + 4, h => exact absurd h (by omega)
/-- i letters of N are had -/
def zPc (N : Nat) (hd i : Int32) : Prop := ∃ h : Nat, h < 2 ^ N ∧ hd = Int32.ofNat h ∧ i.toInt = ((h % 2 + h / 2 % 2 + h / 4 % 2 + h / 8 % 2 : Nat) : Int)
theorem zPc0 {N : Nat} : zPc N 0 0 := ⟨0, Nat.two_pow_pos N, rfl, by decide⟩
def cPc (h : Nat) : Nat := h % 2 + h / 2 % 2 + h / 4 % 2 + h / 8 % 2
theorem zPc_t4 : ∀ h : Nat, h < 16 → ∀ k : Nat, k < 4 → ¬ cBt (Int32.ofNat h) (Int32.ofNat k) = 1 → cOr (Int32.ofNat h) (Int32.ofNat k) = Int32.ofNat (h + 2 ^ k) ∧ h + 2 ^ k < 16 ∧ cPc (h + 2 ^ k) = cPc h + 1 := by
  decide +kernel
theorem zPc_t3 : ∀ h : Nat, h < 8 → ∀ k : Nat, k < 3 → ¬ cBt (Int32.ofNat h) (Int32.ofNat k) = 1 → cOr (Int32.ofNat h) (Int32.ofNat k) = Int32.ofNat (h + 2 ^ k) ∧ h + 2 ^ k < 8 ∧ cPc (h + 2 ^ k) = cPc h + 1 := by
  decide +kernel
theorem zPc_f4 : ∀ h : Nat, h < 16 → 4 ≤ cPc h → h = 15 := by decide +kernel
theorem zPc_f3 : ∀ h : Nat, h < 8 → 3 ≤ cPc h → h = 7 := by decide +kernel
theorem zk32 {k : Int32} (h0 : 0 ≤ k.toInt) : k = Int32.ofNat k.toInt.toNat := by
  apply Int32.toInt_inj.mp
  have h1 := k.toInt_lt
  have h2 : (Int32.ofNat k.toInt.toNat).toInt = (k.toInt.toNat : Int) := Int32.toInt_ofNat_of_lt (by omega)
  rw [h2]
  omega
theorem zPcS4 {hd i i' k : Int32} (q : zPc 4 hd i) (h0 : 0 ≤ k.toInt) (h4 : k.toInt < 4) (hb : ¬ cBt hd k = 1) (e : i'.toInt = i.toInt + 1) : zPc 4 (cOr hd k) i' := by
  obtain ⟨h, l, rfl, hi⟩ := q
  have ek := zk32 h0
  rw [ek] at hb ⊢
  obtain ⟨e', l', c'⟩ := zPc_t4 h l k.toInt.toNat (by omega) hb
  refine ⟨_, l', e', ?_⟩
  generalize h + 2 ^ k.toInt.toNat = h' at c' ⊢
  unfold cPc at c'
  omega
theorem zPcS3 {hd i i' k : Int32} (q : zPc 3 hd i) (h0 : 0 ≤ k.toInt) (h4 : k.toInt < 3) (hb : ¬ cBt hd k = 1) (e : i'.toInt = i.toInt + 1) : zPc 3 (cOr hd k) i' := by
  obtain ⟨h, l, rfl, hi⟩ := q
  have ek := zk32 h0
  rw [ek] at hb ⊢
  obtain ⟨e', l', c'⟩ := zPc_t3 h l k.toInt.toNat (by omega) hb
  refine ⟨_, l', e', ?_⟩
  generalize h + 2 ^ k.toInt.toNat = h' at c' ⊢
  unfold cPc at c'
  omega
theorem zPcF4 {hd i k : Int32} (q : zPc 4 hd i) (hi : 4 ≤ i.toInt) (h0 : 0 ≤ k.toInt) (h4 : k.toInt < 4) : cBt hd k = 1 := by
  obtain ⟨h, l, rfl, e⟩ := q
  have : h = 15 := zPc_f4 h l (by unfold cPc; omega)
  rw [this, zk32 h0]
  have hk : k.toInt.toNat < 4 := by omega
  generalize k.toInt.toNat = j at hk
  match j, hk with
  | 0, _ => decide
  | 1, _ => decide
  | 2, _ => decide
  | 3, _ => decide
  | j + 4, h => exact absurd h (by omega)
theorem zPcF3 {hd i k : Int32} (q : zPc 3 hd i) (hi : 3 ≤ i.toInt) (h0 : 0 ≤ k.toInt) (h4 : k.toInt < 3) : cBt hd k = 1 := by
  obtain ⟨h, l, rfl, e⟩ := q
  have : h = 7 := zPc_f3 h l (by unfold cPc; omega)
  rw [this, zk32 h0]
  have hk : k.toInt.toNat < 3 := by omega
  generalize k.toInt.toNat = j at hk
  match j, hk with
  | 0, _ => decide
  | 1, _ => decide
  | 2, _ => decide
  | j + 3, h => exact absurd h (by omega)
theorem cIt_r0 (c : Int) : (if c = 112 then (0 : Int32) else if c = 102 then 1 else if c = 100 then 2 else -1) = -1 ∨ (0 ≤ (if c = 112 then (0 : Int32) else if c = 102 then 1 else if c = 100 then 2 else -1).toInt ∧ (if c = 112 then (0 : Int32) else if c = 102 then 1 else if c = 100 then 2 else -1).toInt < 3) := by
  by_cases c0 : c = 112
  · rw [if_pos c0]
    exact Or.inr (by decide)
  · rw [if_neg c0]
    by_cases c1 : c = 102
    · rw [if_pos c1]
      exact Or.inr (by decide)
    · rw [if_neg c1]
      by_cases c2 : c = 100
      · rw [if_pos c2]
        exact Or.inr (by decide)
      · rw [if_neg c2]
        exact Or.inl rfl
theorem cIt_r1 (c : Int) : (if c = 102 then (0 : Int32) else if c = 100 then 1 else if c = 119 then 2 else if c = 121 then 3 else -1) = -1 ∨ (0 ≤ (if c = 102 then (0 : Int32) else if c = 100 then 1 else if c = 119 then 2 else if c = 121 then 3 else -1).toInt ∧ (if c = 102 then (0 : Int32) else if c = 100 then 1 else if c = 119 then 2 else if c = 121 then 3 else -1).toInt < 4) := by
  by_cases c0 : c = 102
  · rw [if_pos c0]
    exact Or.inr (by decide)
  · rw [if_neg c0]
    by_cases c1 : c = 100
    · rw [if_pos c1]
      exact Or.inr (by decide)
    · rw [if_neg c1]
      by_cases c2 : c = 119
      · rw [if_pos c2]
        exact Or.inr (by decide)
      · rw [if_neg c2]
        by_cases c3 : c = 121
        · rw [if_pos c3]
          exact Or.inr (by decide)
        · rw [if_neg c3]
          exact Or.inl rfl
theorem cIt_r2 (c : Int) : (if c = 115 then (0 : Int32) else if c = 102 then 1 else if c = 97 then 2 else if c = 107 then 3 else -1) = -1 ∨ (0 ≤ (if c = 115 then (0 : Int32) else if c = 102 then 1 else if c = 97 then 2 else if c = 107 then 3 else -1).toInt ∧ (if c = 115 then (0 : Int32) else if c = 102 then 1 else if c = 97 then 2 else if c = 107 then 3 else -1).toInt < 4) := by
  by_cases c0 : c = 115
  · rw [if_pos c0]
    exact Or.inr (by decide)
  · rw [if_neg c0]
    by_cases c1 : c = 102
    · rw [if_pos c1]
      exact Or.inr (by decide)
    · rw [if_neg c1]
      by_cases c2 : c = 97
      · rw [if_pos c2]
        exact Or.inr (by decide)
      · rw [if_neg c2]
        by_cases c3 : c = 107
        · rw [if_pos c3]
          exact Or.inr (by decide)
        · rw [if_neg c3]
          exact Or.inl rfl
theorem cIt_rng (cl : Nat) (c : Int) : cIt cl c = -1 ∨ (0 ≤ (cIt cl c).toInt ∧ (cIt cl c).toInt < (if cl = 0 then 3 else 4)) := by
  match cl with
  | 0 => rw [if_pos rfl]; exact cIt_r0 c
  | 1 => rw [if_neg (by decide)]; exact cIt_r1 c
  | k + 2 => rw [if_neg (by omega)]; exact cIt_r2 c
/-- right: the place is behind blanks of u; wrong: at u -/
def zFs (f : Nat → Int32) (n : Int32) (x : Int × Int) (r u : Int32) : Prop := (r.toInt = 1 ∧ x = (1, sk (sB f n.toInt) n.toInt u.toInt)) ∨ (r.toInt = 0 ∧ x = (0, u.toInt))
/-- the letter at the place, as the class has it -/
theorem zit_k {f : Nat → Int32} {n a c u : Int32} {cl : Nat} (h : zPK f n a c u) : cIt cl (sB f n.toInt (sk (sB f n.toInt) n.toInt a.toInt)) = cIt cl c.toInt := by
  rw [h.1]
  rcases h.2 with q | q
  · rw [q.1]
  · rw [q.1, q.2.1, cIt_no cl (by omega), cIt_no cl (by omega)]
theorem zit_full {f : Nat → Int32} {n a hd i : Int32} {cl : Nat} {X : Int × Int} (h : X = sIts (sB f n.toInt) n.toInt cl hd a.toInt) (hp : (cl = 0 ∧ zPc 3 hd i ∧ 3 ≤ i.toInt) ∨ (¬ cl = 0 ∧ zPc 4 hd i ∧ 4 ≤ i.toInt)) : zFs f n X 1 a := by
  refine Or.inl ⟨by decide, ?_⟩
  rw [h]
  refine sIts_end (fun z => ?_)
  rcases cIt_rng cl (sB f n.toInt (sk (sB f n.toInt) n.toInt a.toInt)) with e | e
  · exact z.2.1 e
  · rcases hp with q | q
    · rw [if_pos q.1] at e
      exact z.2.2 (zPcF3 q.2.1 q.2.2 e.1 e.2)
    · rw [if_neg q.1] at e
      exact z.2.2 (zPcF4 q.2.1 q.2.2 e.1 e.2)
theorem zit_no {f : Nat → Int32} {n a c u k hd : Int32} {cl : Nat} {X : Int × Int} (h : X = sIts (sB f n.toInt) n.toInt cl hd a.toInt) (hp : zPK f n a c u) (hk : k = cIt cl c.toInt) (hc : k.toInt = -1 ∨ cBt hd k = 1) : zFs f n X 1 u := by
  refine Or.inl ⟨by decide, ?_⟩
  rw [zpk_sk hp, h, sIts_end (fun z => ?_), hp.1]
  rw [zit_k hp, ← hk] at z
  rcases hc with q | q
  · exact z.2.1 (Int32.toInt_inj.mp (q.trans (by decide)))
  · exact z.2.2 q
theorem zit_c {f : Nat → Int32} {n a c u k hd : Int32} {cl : Nat} (hp : zPK f n a c u) (hk : k = cIt cl c.toInt) (h1 : ¬ k.toInt = -1) (h2 : ¬ cBt hd k = 1) : sk (sB f n.toInt) n.toInt a.toInt < n.toInt ∧ ¬ cIt cl (sB f n.toInt (sk (sB f n.toInt) n.toInt a.toInt)) = -1 ∧ ¬ cBt hd (cIt cl (sB f n.toInt (sk (sB f n.toInt) n.toInt a.toInt))) = 1 := by
  rw [zit_k hp, ← hk]
  refine ⟨?_, fun z => h1 (by rw [z]; decide), h2⟩
  rw [hp.1]
  rcases hp.2 with q | q
  · exact q.2.2
  · exfalso
    rw [q.2.1, cIt_no cl (by omega)] at hk
    exact h1 (by rw [hk]; decide)
theorem zit_1 {f : Nat → Int32} {n a c u k q c2 u2 b : Int32} {cl : Nat} (hp : zPK f n a c u) (hk : k = cIt cl c.toInt) (hq : q.toInt = u.toInt + 1) (hp2 : zPK f n q c2 u2) (hb : b.toInt = cHi cl k) : sIt1 (sB f n.toInt) n.toInt cl (sk (sB f n.toInt) n.toInt a.toInt) = sNm2 (sB f n.toInt) b.toInt u2.toInt := by
  unfold sIt1
  rw [zit_k hp, ← hk, ← hb, hp.1, ← hq, hp2.1]
theorem zit_bad {f : Nat → Int32} {n a c u k hd q c2 u2 b r w : Int32} {cl : Nat} {X : Int × Int} (h : X = sIts (sB f n.toInt) n.toInt cl hd a.toInt) (hp : zPK f n a c u) (hk : k = cIt cl c.toInt) (h1 : ¬ k.toInt = -1) (h2 : ¬ cBt hd k = 1) (hq : q.toInt = u.toInt + 1) (hp2 : zPK f n q c2 u2) (hb : b.toInt = cHi cl k) (hn : zN2 f n u2 b r w) (hr : r.toInt = -1) : zFs f n X 0 w := by
  refine Or.inr ⟨by decide, ?_⟩
  have e := zit_1 hp hk hq hp2 hb
  rcases hn with z | z
  · rw [h, sIts_bad (zit_c hp hk h1 h2) (by rw [e, z.2]; exact zne1), e, z.2]
  · omega
theorem zit_go {f : Nat → Int32} {n a c u k hd q c2 u2 b r w : Int32} {cl : Nat} {X : Int × Int} (h : X = sIts (sB f n.toInt) n.toInt cl hd a.toInt) (hp : zPK f n a c u) (hk : k = cIt cl c.toInt) (h1 : ¬ k.toInt = -1) (h2 : ¬ cBt hd k = 1) (hq : q.toInt = u.toInt + 1) (hp2 : zPK f n q c2 u2) (hb : b.toInt = cHi cl k) (hn : zN2 f n u2 b r w) (hr : ¬ r.toInt = -1) (hm : a.toInt < w.toInt) : X = sIts (sB f n.toInt) n.toInt cl (cOr hd k) w.toInt := by
  have e := zit_1 hp hk hq hp2 hb
  rcases hn with z | z
  · exact absurd z.1 hr
  · rw [h, sIts_go (zit_c hp hk h1 h2) (by rw [e, z.2.2]) (by rw [e, z.2.2]; exact hm), e, z.2.2, zit_k hp, ← hk]
/-! clauses -/
def sCc (g : Int → Int) (n hr nb np a : Int) : Int × Int :=
  if g (sk g n a) = 115 ∧ hr = 0 then sIts g n 0 0 (sk g n a + 1)
  else if g (sk g n a) = 98 ∧ nb < 6 then sIts g n 1 0 (sk g n a + 1)
  else if g (sk g n a) = 112 ∧ np < 5 then sIts g n 2 0 (sk g n a + 1)
  else (0, sk g n a)
def sCs (hr nb np c : Int) : Int × Int × Int :=
  if c = 115 ∧ hr = 0 then (1, nb, np) else if c = 98 ∧ nb < 6 then (hr, nb + 1, np) else if c = 112 ∧ np < 5 then (hr, nb, np + 1) else (hr, nb, np)
/-- the end of a court behind its last clause -/
def sCe (n p : Int) (s : Int × Int × Int) : Int × Int × Int × Int := if n ≤ p ∧ 0 < s.2.1 ∧ 0 < s.2.2 then (-1, s) else (p, s)
def sCo (g : Int → Int) (n : Int) (s : Int × Int × Int) (a : Int) : Int × Int × Int × Int :=
  if (sCc g n s.1 s.2.1 s.2.2 a).1 = 1 then
    (if _h : sk g n (sCc g n s.1 s.2.1 s.2.2 a).2 < n ∧ g (sk g n (sCc g n s.1 s.2.1 s.2.2 a).2) = 59 ∧ a ≤ sk g n (sCc g n s.1 s.2.1 s.2.2 a).2 then
      sCo g n (sCs s.1 s.2.1 s.2.2 (g (sk g n a))) (sk g n (sCc g n s.1 s.2.1 s.2.2 a).2 + 1)
    else sCe n (sk g n (sCc g n s.1 s.2.1 s.2.2 a).2) (sCs s.1 s.2.1 s.2.2 (g (sk g n a))))
  else ((sCc g n s.1 s.2.1 s.2.2 a).2, sCs s.1 s.2.1 s.2.2 (g (sk g n a)))
termination_by (n - a).toNat
decreasing_by omega
/-- a court behind a clause that was read: x its answer and place, s what was had -/
def sCk (g : Int → Int) (n : Int) (s : Int × Int × Int) (x : Int × Int) : Int × Int × Int × Int :=
  if x.1 = 1 then (if sk g n x.2 < n ∧ g (sk g n x.2) = 59 then sCo g n s (sk g n x.2 + 1) else sCe n (sk g n x.2) s) else (x.2, s)
theorem sIts_ge (g : Int → Int) (n : Int) (cl : Nat) : ∀ (k : Nat) (hd : Int32) (a : Int), (n - a).toNat ≤ k → (sIts g n cl hd a).1 = 1 → a ≤ (sIts g n cl hd a).2 := by
  intro k
  induction k with
  | zero =>
    intro hd a hk h
    have := sk_ge g n a
    rw [sIts_end (fun z => by omega)]
    exact this
  | succ k ih =>
    intro hd a hk h
    have s := sk_ge g n a
    by_cases c : sk g n a < n ∧ ¬ cIt cl (g (sk g n a)) = -1 ∧ ¬ cBt hd (cIt cl (g (sk g n a))) = 1
    · by_cases h2 : (sIt1 g n cl (sk g n a)).1 = 1
      · have m := sNm2_mono g _ _ h2
        have s2 := sk_ge g n (sk g n a + 1)
        have m : sk g n (sk g n a + 1) < (sIt1 g n cl (sk g n a)).2 := m
        have e := sIts_go c h2 (by omega)
        rw [e] at h ⊢
        have := ih _ _ (by omega) h
        omega
      · rw [sIts_bad c h2] at h
        exact absurd h zne1
    · rw [sIts_end c]
      exact s
theorem sCc_ge {g : Int → Int} {n hr nb np a : Int} (h : (sCc g n hr nb np a).1 = 1) : a ≤ (sCc g n hr nb np a).2 := by
  have s := sk_ge g n a
  unfold sCc at h ⊢
  by_cases c1 : g (sk g n a) = 115 ∧ hr = 0
  · rw [if_pos c1] at h ⊢
    have := sIts_ge g n 0 _ _ _ (Nat.le_refl _) h
    omega
  · rw [if_neg c1] at h ⊢
    by_cases c2 : g (sk g n a) = 98 ∧ nb < 6
    · rw [if_pos c2] at h ⊢
      have := sIts_ge g n 1 _ _ _ (Nat.le_refl _) h
      omega
    · rw [if_neg c2] at h ⊢
      by_cases c3 : g (sk g n a) = 112 ∧ np < 5
      · rw [if_pos c3] at h ⊢
        have := sIts_ge g n 2 _ _ _ (Nat.le_refl _) h
        omega
      · rw [if_neg c3] at h
        exact absurd h zne1
theorem sCo_eq (g : Int → Int) (n : Int) (s : Int × Int × Int) (a : Int) : sCo g n s a = sCk g n (sCs s.1 s.2.1 s.2.2 (g (sk g n a))) (sCc g n s.1 s.2.1 s.2.2 a) := by
  rw [sCo]
  unfold sCk
  by_cases h : (sCc g n s.1 s.2.1 s.2.2 a).1 = 1
  · have m := sCc_ge h
    have k := sk_ge g n (sCc g n s.1 s.2.1 s.2.2 a).2
    rw [if_pos h, if_pos h]
    by_cases c : sk g n (sCc g n s.1 s.2.1 s.2.2 a).2 < n ∧ g (sk g n (sCc g n s.1 s.2.1 s.2.2 a).2) = 59
    · rw [dif_pos ⟨c.1, c.2, by omega⟩, if_pos c]
    · rw [dif_neg (fun z => c ⟨z.1, z.2.1⟩), if_neg c]
  · rw [if_neg h, if_neg h]
/-- the fault of a court (-1: none), whether there were rules, how many brides and painters -/
def sCrt (g : Int → Int) (n : Int) : Int × Int × Int × Int := sCo g n (0, 0, 0) 0
theorem sCk_sk {g : Int → Int} {n : Int} {s : Int × Int × Int} {u : Int} : sCk g n s (1, sk g n u) = sCk g n s (1, u) := by
  unfold sCk
  rw [if_pos rfl, if_pos rfl]
  show (if sk g n (sk g n u) < n ∧ g (sk g n (sk g n u)) = 59 then _ else _) = (if sk g n u < n ∧ g (sk g n u) = 59 then _ else _)
  rw [sk_id]
theorem sCk_fs {f : Nat → Int32} {n r u : Int32} {s : Int × Int × Int} {x : Int × Int} (h : zFs f n x r u) : sCk (sB f n.toInt) n.toInt s x = sCk (sB f n.toInt) n.toInt s (r.toInt, u.toInt) := by
  rcases h with q | q
  · rw [q.2, q.1, sCk_sk]
  · rw [q.2, q.1]
/-- the class's clause: its answer and place, and what was had -/
def zCc (f : Nat → Int32) (n a hr nb np r u hr' nb' np' : Int32) : Prop := zFs f n (sCc (sB f n.toInt) n.toInt hr.toInt nb.toInt np.toInt a.toInt) r u ∧ sCs hr.toInt nb.toInt np.toInt (sB f n.toInt (sk (sB f n.toInt) n.toInt a.toInt)) = (hr'.toInt, nb'.toInt, np'.toInt)
theorem zcc_s {f : Nat → Int32} {n a c u q r w hr nb np : Int32} (hp : zPK f n a c u) (hc : c.toInt = 115) (h0 : hr.toInt = 0) (hq : q.toInt = u.toInt + 1) (hx : zFs f n (sIts (sB f n.toInt) n.toInt 0 0 q.toInt) r w) : zCc f n a hr nb np r w 1 nb np := by
  have e := (zpk_is hp (c := 115) (by decide)).mpr hc
  constructor
  · unfold sCc
    rw [if_pos ⟨e, h0⟩, hp.1, ← hq]
    exact hx
  · unfold sCs
    rw [if_pos ⟨e, h0⟩]
    rfl
theorem zcc_b {f : Nat → Int32} {n a c u q r w hr nb np nb' : Int32} (hp : zPK f n a c u) (hc : c.toInt = 98) (h0 : nb.toInt < 6) (hq : q.toInt = u.toInt + 1) (hb : nb'.toInt = nb.toInt + 1) (hx : zFs f n (sIts (sB f n.toInt) n.toInt 1 0 q.toInt) r w) : zCc f n a hr nb np r w hr nb' np := by
  have e := (zpk_is hp (c := 98) (by decide)).mpr hc
  constructor
  · unfold sCc
    rw [if_neg (by omega), if_pos ⟨e, h0⟩, hp.1, ← hq]
    exact hx
  · unfold sCs
    rw [if_neg (by omega), if_pos ⟨e, h0⟩, hb]
theorem zcc_p {f : Nat → Int32} {n a c u q r w hr nb np np' : Int32} (hp : zPK f n a c u) (hc : c.toInt = 112) (h0 : np.toInt < 5) (hq : q.toInt = u.toInt + 1) (hb : np'.toInt = np.toInt + 1) (hx : zFs f n (sIts (sB f n.toInt) n.toInt 2 0 q.toInt) r w) : zCc f n a hr nb np r w hr nb np' := by
  have e := (zpk_is hp (c := 112) (by decide)).mpr hc
  constructor
  · unfold sCc
    rw [if_neg (by omega), if_neg (by omega), if_pos ⟨e, h0⟩, hp.1, ← hq]
    exact hx
  · unfold sCs
    rw [if_neg (by omega), if_neg (by omega), if_pos ⟨e, h0⟩, hb]
theorem zcc_n {f : Nat → Int32} {n a c u hr nb np : Int32} (hp : zPK f n a c u) (h1 : ¬ (c.toInt = 115 ∧ hr.toInt = 0)) (h2 : ¬ (c.toInt = 98 ∧ nb.toInt < 6)) (h3 : ¬ (c.toInt = 112 ∧ np.toInt < 5)) : zCc f n a hr nb np 0 u hr nb np := by
  have e1 := zpk_is hp (c := 115) (by decide)
  have e2 := zpk_is hp (c := 98) (by decide)
  have e3 := zpk_is hp (c := 112) (by decide)
  constructor
  · refine Or.inr ⟨by decide, ?_⟩
    unfold sCc
    rw [if_neg (fun z => h1 ⟨e1.mp z.1, z.2⟩), if_neg (fun z => h2 ⟨e2.mp z.1, z.2⟩), if_neg (fun z => h3 ⟨e3.mp z.1, z.2⟩), hp.1]
  · unfold sCs
    rw [if_neg (fun z => h1 ⟨e1.mp z.1, z.2⟩), if_neg (fun z => h2 ⟨e2.mp z.1, z.2⟩), if_neg (fun z => h3 ⟨e3.mp z.1, z.2⟩)]
/-- the class's reader of a court: between its clauses -/
def zCr (f : Nat → Int32) (n g a hr nb np : Int32) : Prop := sCrt (sB f n.toInt) n.toInt = sCk (sB f n.toInt) n.toInt (hr.toInt, nb.toInt, np.toInt) (g.toInt, a.toInt)
theorem zCr0 {f : Nat → Int32} {n r u hr nb np : Int32} (h : zCc f n 0 0 0 0 r u hr nb np) : zCr f n r u hr nb np := by
  have h1 := h.1
  have h2 := h.2
  rw [show (0 : Int32).toInt = 0 from by decide] at h1 h2
  unfold zCr sCrt
  rw [sCo_eq, h2, sCk_fs h1]
theorem zCrS {f : Nat → Int32} {n g a hr nb np r u r2 u2 hr2 nb2 np2 : Int32} (h : zCr f n g a hr nb np) (hg : g.toInt = 1) (ht : zTk f n a 59 r u) (hr1 : ¬ r.toInt = 0) (hc : zCc f n u hr nb np r2 u2 hr2 nb2 np2) : zCr f n r2 u2 hr2 nb2 np2 := by
  have e := h
  unfold zCr at e ⊢
  rcases ht with q | q
  · rw [e]
    unfold sCk
    rw [if_pos (show (g.toInt, a.toInt).1 = 1 from hg)]
    show (if sk (sB f n.toInt) n.toInt a.toInt < n.toInt ∧ sB f n.toInt (sk (sB f n.toInt) n.toInt a.toInt) = 59 then sCo (sB f n.toInt) n.toInt (hr.toInt, nb.toInt, np.toInt) (sk (sB f n.toInt) n.toInt a.toInt + 1) else sCe n.toInt (sk (sB f n.toInt) n.toInt a.toInt) (hr.toInt, nb.toInt, np.toInt)) = _
    rw [if_pos ⟨by omega, q.2.2.1.trans (by decide)⟩, ← q.2.1, sCo_eq]
    show sCk _ _ (sCs hr.toInt nb.toInt np.toInt _) (sCc _ _ hr.toInt nb.toInt np.toInt _) = _
    rw [hc.2, sCk_fs hc.1]
    rfl
  · exact absurd q.1 hr1
theorem zCrE {f : Nat → Int32} {n g a hr nb np c u : Int32} (h : zCr f n g a hr nb np) (hg : g.toInt = 1) (he : n.toInt ≤ a.toInt ∨ ¬ sB f n.toInt (sk (sB f n.toInt) n.toInt a.toInt) = 59) (hp : sk (sB f n.toInt) n.toInt a.toInt = u.toInt) : sCrt (sB f n.toInt) n.toInt = sCe n.toInt u.toInt (hr.toInt, nb.toInt, np.toInt) := by
  have k := sk_ge (sB f n.toInt) n.toInt a.toInt
  unfold zCr at h
  rw [h]
  unfold sCk
  rw [if_pos (show (g.toInt, a.toInt).1 = 1 from hg)]
  show (if sk (sB f n.toInt) n.toInt a.toInt < n.toInt ∧ sB f n.toInt (sk (sB f n.toInt) n.toInt a.toInt) = 59 then _ else sCe n.toInt (sk (sB f n.toInt) n.toInt a.toInt) (hr.toInt, nb.toInt, np.toInt)) = _
  rw [if_neg (fun z => he.elim (fun y => by have := z.1; omega) (fun y => y z.2)), hp]
theorem zCrN {f : Nat → Int32} {n g a hr nb np c u r : Int32} (h : zCr f n g a hr nb np) (hg : g.toInt = 1) (he : n.toInt ≤ a.toInt ∨ ¬ sB f n.toInt (sk (sB f n.toInt) n.toInt a.toInt) = 59) (hp : sk (sB f n.toInt) n.toInt a.toInt = u.toInt) (hs : zSg f n u c) (hc : c.toInt = 0) (h1 : 0 < nb.toInt) (h2 : 0 < np.toInt) (hr' : r.toInt = -1) : sCrt (sB f n.toInt) n.toInt = (r.toInt, hr.toInt, nb.toInt, np.toInt) := by
  rw [zCrE (c := c) h hg he hp, hr']
  unfold sCe
  rcases hs with q | q
  · omega
  · rw [if_pos ⟨q.2.2, h1, h2⟩]
theorem zCrW {f : Nat → Int32} {n g a hr nb np c u r : Int32} (h : zCr f n g a hr nb np) (hg : g.toInt = 1) (he : n.toInt ≤ a.toInt ∨ ¬ sB f n.toInt (sk (sB f n.toInt) n.toInt a.toInt) = 59) (hp : sk (sB f n.toInt) n.toInt a.toInt = u.toInt) (hs : zSg f n u c) (hc : ¬ c.toInt = 0 ∨ ¬ 0 < nb.toInt ∨ ¬ 0 < np.toInt) (hr' : r.toInt = u.toInt) : sCrt (sB f n.toInt) n.toInt = (r.toInt, hr.toInt, nb.toInt, np.toInt) := by
  rw [zCrE (c := c) h hg he hp, hr']
  unfold sCe
  show (if n.toInt ≤ u.toInt ∧ 0 < nb.toInt ∧ 0 < np.toInt then _ else _) = _
  rcases hs with q | q
  · rw [if_neg (by omega)]
  · rw [if_neg (by omega)]
theorem zCrF {f : Nat → Int32} {n g a hr nb np r : Int32} (h : zCr f n g a hr nb np) (hg : g.toInt = 0) (hr' : r.toInt = a.toInt) : sCrt (sB f n.toInt) n.toInt = (r.toInt, hr.toInt, nb.toInt, np.toInt) := by
  unfold zCr at h
  rw [h, hg, hr']
  unfold sCk
  rw [if_neg zne1]
