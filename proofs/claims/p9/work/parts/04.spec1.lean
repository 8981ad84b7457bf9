/-- the byte at a; -1 where there is none -/
def sB (B : Nat → Int32) (n a : Int) : Int := if 0 ≤ a ∧ a < n then (B a.toNat).toInt else -1
/-- behind the blanks -/
def sk (g : Int → Int) (n a : Int) : Int := if _h : a < n ∧ g a = 32 then sk g n (a + 1) else a
termination_by (n - a).toNat
decreasing_by omega
theorem sk_go {g : Int → Int} {n a : Int} (h1 : a < n) (h2 : g a = 32) : sk g n a = sk g n (a + 1) := by
  rw [sk, dif_pos ⟨h1, h2⟩]
theorem sk_st {g : Int → Int} {n a : Int} (h : ¬ (a < n ∧ g a = 32)) : sk g n a = a := by
  rw [sk, dif_neg h]
theorem sk_bd (g : Int → Int) (n : Int) : ∀ (k : Nat) (a : Int), (n - a).toNat ≤ k → a ≤ sk g n a ∧ (a ≤ n → sk g n a ≤ n) ∧ ¬ (sk g n a < n ∧ g (sk g n a) = 32) := by
  intro k
  induction k with
  | zero =>
    intro a h
    have e : sk g n a = a := sk_st (by omega)
    rw [e]
    exact ⟨by omega, by omega, by omega⟩
  | succ k ih =>
    intro a h
    by_cases q : a < n ∧ g a = 32
    · rw [sk_go q.1 q.2]
      obtain ⟨h1, h2, h3⟩ := ih (a + 1) (by omega)
      exact ⟨by omega, by omega, h3⟩
    · rw [sk_st q]
      exact ⟨by omega, by omega, q⟩
theorem sk_ge (g : Int → Int) (n a : Int) : a ≤ sk g n a := (sk_bd g n _ a (Nat.le_refl _)).1
theorem sk_le {g : Int → Int} {n a : Int} (h : a ≤ n) : sk g n a ≤ n := (sk_bd g n _ a (Nat.le_refl _)).2.1 h
theorem sk_id (g : Int → Int) (n a : Int) : sk g n (sk g n a) = sk g n a := sk_st (sk_bd g n _ a (Nat.le_refl _)).2.2
theorem zne1 {w : Int} : ¬ ((0 : Int), w).1 = 1 := fun h => absurd (show (0 : Int) = 1 from h) (by decide)
/-- pieces with signs between them, from a place behind the blanks -/
def sLp (g : Int → Int) (n : Int) (op : Int → Bool) (f : Int → Int × Int) (p : Int) : Int × Int :=
  if _h : p < n ∧ op (g p) = true then
    if (f (p + 1)).1 = 1 then
      (if _h2 : p < sk g n (f (p + 1)).2 then sLp g n op f (sk g n (f (p + 1)).2) else (1, sk g n (f (p + 1)).2))
    else (0, (f (p + 1)).2)
  else (1, p)
termination_by (n - p).toNat
decreasing_by omega
theorem sLp_end {g : Int → Int} {n : Int} {op : Int → Bool} {f : Int → Int × Int} {p : Int} (h : ¬ (p < n ∧ op (g p) = true)) : sLp g n op f p = (1, p) := by
  rw [sLp, dif_neg h]
theorem sLp_bad {g : Int → Int} {n : Int} {op : Int → Bool} {f : Int → Int × Int} {p : Int} (h1 : p < n) (h2 : op (g p) = true) (h3 : ¬ (f (p + 1)).1 = 1) : sLp g n op f p = (0, (f (p + 1)).2) := by
  rw [sLp, dif_pos ⟨h1, h2⟩, if_neg h3]
theorem sLp_go {g : Int → Int} {n : Int} {op : Int → Bool} {f : Int → Int × Int} {p : Int} (h1 : p < n) (h2 : op (g p) = true) (h3 : (f (p + 1)).1 = 1) (h4 : p < sk g n (f (p + 1)).2) : sLp g n op f p = sLp g n op f (sk g n (f (p + 1)).2) := by
  rw [sLp, dif_pos ⟨h1, h2⟩, if_pos h3, dif_pos h4]
theorem sLp_ge {g : Int → Int} {n : Int} {op : Int → Bool} {f : Int → Int × Int} (hm : ∀ a, (f a).1 = 1 → a < (f a).2) : ∀ (k : Nat) (p : Int), (n - p).toNat ≤ k → sk g n p = p → (sLp g n op f p).1 = 1 → p ≤ (sLp g n op f p).2 ∧ sk g n (sLp g n op f p).2 = (sLp g n op f p).2 := by
  intro k
  induction k with
  | zero =>
    intro p hk hp _
    rw [sLp_end (f := f) (op := op) (g := g) (n := n) (p := p) (fun q => by omega)]
    exact ⟨Int.le_refl _, hp⟩
  | succ k ih =>
    intro p hk hp h1
    by_cases q : p < n ∧ op (g p) = true
    · by_cases hf : (f (p + 1)).1 = 1
      · have h2 := hm _ hf
        have h3 := sk_ge g n (f (p + 1)).2
        have e := sLp_go q.1 q.2 hf (by omega)
        rw [e] at h1 ⊢
        obtain ⟨h4, h5⟩ := ih _ (by omega) (sk_id g n _) h1
        exact ⟨by omega, h5⟩
      · rw [sLp_bad q.1 q.2 hf] at h1
        exact absurd h1 zne1
    · rw [sLp_end q]
      exact ⟨Int.le_refl _, hp⟩
/-- pieces with one sort of signs: what stands between two of the other sort -/
def sTm (g : Int → Int) (n : Int) (op : Int → Bool) (f : Int → Int × Int) (a : Int) : Int × Int :=
  if (f a).1 = 1 then sLp g n op f (sk g n (f a).2) else (0, (f a).2)
theorem sTm_mono {g : Int → Int} {n : Int} {op : Int → Bool} {f : Int → Int × Int} (hm : ∀ a, (f a).1 = 1 → a < (f a).2) (a : Int) (h : (sTm g n op f a).1 = 1) : a < (sTm g n op f a).2 := by
  unfold sTm at h ⊢
  by_cases q : (f a).1 = 1
  · rw [if_pos q] at h ⊢
    have h1 := hm _ q
    have h2 := sk_ge g n (f a).2
    have h3 := sLp_ge (op := op) hm _ _ (Nat.le_refl _) (sk_id g n (f a).2) h
    omega
  · rw [if_neg q] at h
    exact absurd h zne1
theorem sLp_two {g : Int → Int} {n : Int} {op op1 op2 : Int → Bool} {f : Int → Int × Int} (hop : ∀ c, op c = (op1 c || op2 c)) (hm : ∀ a, (f a).1 = 1 → a < (f a).2) : ∀ (k : Nat) (p : Int), (n - p).toNat ≤ k → sk g n p = p →
    sLp g n op f p = (if (sLp g n op1 f p).1 = 1 then sLp g n op2 (sTm g n op1 f) (sLp g n op1 f p).2 else (0, (sLp g n op1 f p).2)) := by
  intro k
  induction k with
  | zero =>
    intro p hk hp
    have z : ¬ p < n := by omega
    rw [sLp_end (op := op) (fun q => z q.1), sLp_end (op := op1) (fun q => z q.1), if_pos rfl, sLp_end (op := op2) (fun q => z q.1)]
  | succ k ih =>
    intro p hk hp
    by_cases q : p < n
    · by_cases h1 : op1 (g p) = true
      · have h0 : op (g p) = true := by rw [hop, h1]; rfl
        by_cases hf : (f (p + 1)).1 = 1
        · have h2 := hm _ hf
          have h3 := sk_ge g n (f (p + 1)).2
          rw [sLp_go q h0 hf (by omega), sLp_go q h1 hf (by omega)]
          exact ih _ (by omega) (sk_id g n _)
        · rw [sLp_bad q h0 hf, sLp_bad q h1 hf, if_neg zne1]
      · have e1 : sLp g n op1 f p = (1, p) := sLp_end (fun z => h1 z.2)
        rw [e1, if_pos rfl]
        by_cases h2 : op2 (g p) = true
        · have h0 : op (g p) = true := by rw [hop, h2, Bool.or_true]
          by_cases hf : (f (p + 1)).1 = 1
          · have h3 := hm _ hf
            have h4 := sk_ge g n (f (p + 1)).2
            have et : sTm g n op1 f (p + 1) = sLp g n op1 f (sk g n (f (p + 1)).2) := by unfold sTm; rw [if_pos hf]
            rw [sLp_go q h0 hf (by omega), ih _ (by omega) (sk_id g n _)]
            by_cases ht : (sLp g n op1 f (sk g n (f (p + 1)).2)).1 = 1
            · obtain ⟨h5, h6⟩ := sLp_ge (op := op1) hm _ _ (Nat.le_refl _) (sk_id g n (f (p + 1)).2) ht
              rw [if_pos ht, sLp_go (op := op2) (f := sTm g n op1 f) q h2 (by rw [et]; exact ht) (by rw [et, h6]; omega), et, h6]
            · rw [if_neg ht, sLp_bad (op := op2) (f := sTm g n op1 f) q h2 (by rw [et]; exact ht), et]
          · have et : sTm g n op1 f (p + 1) = (0, (f (p + 1)).2) := by unfold sTm; rw [if_neg hf]
            rw [sLp_bad q h0 hf, sLp_bad (op := op2) (f := sTm g n op1 f) q h2 (by rw [et]; exact zne1), et]
        · have h0 : ¬ op (g p) = true := by rw [hop, Bool.or_eq_true]; exact fun z => z.elim h1 h2
          rw [sLp_end (fun z => h0 z.2), sLp_end (op := op2) (fun z => h2 z.2)]
    · rw [sLp_end (op := op) (fun z => q z.1), sLp_end (op := op1) (fun z => q z.1), if_pos rfl, sLp_end (op := op2) (fun z => q z.1)]
/-- the two shapes of a sum are one -/
theorem sTm_two {g : Int → Int} {n : Int} {op op1 op2 : Int → Bool} {f : Int → Int × Int} (hop : ∀ c, op c = (op1 c || op2 c)) (hm : ∀ a, (f a).1 = 1 → a < (f a).2) (a : Int) : sTm g n op2 (sTm g n op1 f) a = sTm g n op f a := by
  by_cases q : (f a).1 = 1
  · have e1 : sTm g n op1 f a = sLp g n op1 f (sk g n (f a).2) := by unfold sTm; rw [if_pos q]
    have e2 : sTm g n op f a = sLp g n op f (sk g n (f a).2) := by unfold sTm; rw [if_pos q]
    rw [e2, sLp_two hop hm _ _ (Nat.le_refl _) (sk_id g n _)]
    show (if (sTm g n op1 f a).1 = 1 then sLp g n op2 (sTm g n op1 f) (sk g n (sTm g n op1 f a).2) else (0, (sTm g n op1 f a).2)) = _
    rw [e1]
    by_cases h : (sLp g n op1 f (sk g n (f a).2)).1 = 1
    · rw [if_pos h, if_pos h, (sLp_ge hm _ _ (Nat.le_refl _) (sk_id g n (f a).2) h).2]
    · rw [if_neg h, if_neg h]
  · have e1 : sTm g n op1 f a = (0, (f a).2) := by unfold sTm; rw [if_neg q]
    have e2 : sTm g n op f a = (0, (f a).2) := by unfold sTm; rw [if_neg q]
    rw [e2]
    show (if (sTm g n op1 f a).1 = 1 then sLp g n op2 (sTm g n op1 f) (sk g n (sTm g n op1 f a).2) else (0, (sTm g n op1 f a).2)) = _
    rw [e1, if_neg zne1]
/-! a law's text -/
def oA (c : Int) : Bool := decide (c = 43 ∨ c = 45 ∨ c = 42 ∨ c = 47)
def oP (c : Int) : Bool := decide (c = 43 ∨ c = 45)
def oM (c : Int) : Bool := decide (c = 42 ∨ c = 47)
def oC (c : Int) : Bool := decide (c = 38 ∨ c = 124)
def oD (c : Int) : Bool := decide (c = 38)
def oO (c : Int) : Bool := decide (c = 124)
def oS (c : Int) : Bool := decide (c = 59)
theorem oA_two (c : Int) : oA c = (oM c || oP c) := by
  unfold oA oM oP
  rw [← Bool.decide_or]
  exact decide_eq_decide.mpr (by omega)
theorem oC_two (c : Int) : oC c = (oD c || oO c) := by
  unfold oC oD oO
  rw [← Bool.decide_or]
theorem oA_iff {c : Int} : oA c = true ↔ c = 43 ∨ c = 45 ∨ c = 42 ∨ c = 47 := by unfold oA; exact decide_eq_true_iff
theorem oP_iff {c : Int} : oP c = true ↔ c = 43 ∨ c = 45 := by unfold oP; exact decide_eq_true_iff
theorem oM_iff {c : Int} : oM c = true ↔ c = 42 ∨ c = 47 := by unfold oM; exact decide_eq_true_iff
theorem oC_iff {c : Int} : oC c = true ↔ c = 38 ∨ c = 124 := by unfold oC; exact decide_eq_true_iff
theorem oD_iff {c : Int} : oD c = true ↔ c = 38 := by unfold oD; exact decide_eq_true_iff
theorem oO_iff {c : Int} : oO c = true ↔ c = 124 := by unfold oO; exact decide_eq_true_iff
theorem oS_iff {c : Int} : oS c = true ↔ c = 59 := by unfold oS; exact decide_eq_true_iff
/-- a number of one to four digits -/
def sNum (g : Int → Int) (p : Int) : Int × Int :=
  if ¬ (48 ≤ g p ∧ g p ≤ 57) then (0, p) else
  if ¬ (48 ≤ g (p + 1) ∧ g (p + 1) ≤ 57) then (1, p + 1) else
  if ¬ (48 ≤ g (p + 2) ∧ g (p + 2) ≤ 57) then (1, p + 2) else
  if ¬ (48 ≤ g (p + 3) ∧ g (p + 3) ≤ 57) then (1, p + 3) else
  if ¬ (48 ≤ g (p + 4) ∧ g (p + 4) ≤ 57) then (1, p + 4) else (0, p + 4)
theorem sNum_mono (g : Int → Int) (p : Int) (h : (sNum g p).1 = 1) : p < (sNum g p).2 := by
  unfold sNum at h ⊢
  by_cases d0 : 48 ≤ g p ∧ g p ≤ 57
  · rw [if_neg (fun q => q d0)] at h ⊢
    by_cases d1 : 48 ≤ g (p + 1) ∧ g (p + 1) ≤ 57
    · rw [if_neg (fun q => q d1)] at h ⊢
      by_cases d2 : 48 ≤ g (p + 2) ∧ g (p + 2) ≤ 57
      · rw [if_neg (fun q => q d2)] at h ⊢
        by_cases d3 : 48 ≤ g (p + 3) ∧ g (p + 3) ≤ 57
        · rw [if_neg (fun q => q d3)] at h ⊢
          by_cases d4 : 48 ≤ g (p + 4) ∧ g (p + 4) ≤ 57
          · rw [if_neg (fun q => q d4)] at h
            exact absurd h zne1
          · rw [if_pos d4]
            show p < p + 4
            omega
        · rw [if_pos d3]
          show p < p + 3
          omega
      · rw [if_pos d2]
        show p < p + 2
        omega
    · rw [if_pos d1]
      show p < p + 1
      omega
  · rw [if_pos d0] at h
    exact absurd h zne1
def sAt (g : Int → Int) (n : Int) (top : Bool) (s : Int → Int × Int) (a : Int) : Int × Int :=
  if g (sk g n a) = 91 then
    (if top = true then (0, sk g n a) else
      if (s (sk g n a + 1)).1 = 1 then
        (if g (sk g n (s (sk g n a + 1)).2) = 93 then (1, sk g n (s (sk g n a + 1)).2 + 1) else (0, sk g n (s (sk g n a + 1)).2))
      else (0, (s (sk g n a + 1)).2))
  else if g (sk g n a) = 102 ∨ g (sk g n a) = 119 ∨ g (sk g n a) = 121 ∨ g (sk g n a) = 115 ∨ g (sk g n a) = 97 ∨ g (sk g n a) = 109 then (1, sk g n a + 1)
  else sNum g (sk g n a)
theorem sAt_sk (g : Int → Int) (n : Int) (top : Bool) (s : Int → Int × Int) (a : Int) : sAt g n top s (sk g n a) = sAt g n top s a := by
  unfold sAt
  rw [sk_id]
theorem sAt_mono {g : Int → Int} {n : Int} {top : Bool} {s : Int → Int × Int} (hs : top = false → ∀ a, (s a).1 = 1 → a < (s a).2) (a : Int) (h : (sAt g n top s a).1 = 1) : a < (sAt g n top s a).2 := by
  have h0 := sk_ge g n a
  unfold sAt at h ⊢
  by_cases q : g (sk g n a) = 91
  · rw [if_pos q] at h ⊢
    by_cases t : top = true
    · rw [if_pos t] at h
      exact absurd h zne1
    · rw [if_neg t] at h ⊢
      by_cases f : (s (sk g n a + 1)).1 = 1
      · rw [if_pos f] at h ⊢
        by_cases c : g (sk g n (s (sk g n a + 1)).2) = 93
        · rw [if_pos c]
          have h1 := hs (by cases top <;> simp_all) _ f
          have h2 := sk_ge g n (s (sk g n a + 1)).2
          show a < sk g n (s (sk g n a + 1)).2 + 1
          omega
        · rw [if_neg c] at h
          exact absurd h zne1
      · rw [if_neg f] at h
        exact absurd h zne1
  · rw [if_neg q] at h ⊢
    by_cases t : g (sk g n a) = 102 ∨ g (sk g n a) = 119 ∨ g (sk g n a) = 121 ∨ g (sk g n a) = 115 ∨ g (sk g n a) = 97 ∨ g (sk g n a) = 109
    · rw [if_pos t]
      show a < sk g n a + 1
      omega
    · rw [if_neg t] at h ⊢
      have := sNum_mono g _ h
      omega
def sNo (a : Int) : Int × Int := (0, a)
def sSum (g : Int → Int) (n : Int) : Nat → Int → Int × Int
  | 0 => sTm g n oA (sAt g n true sNo)
  | k + 1 => sTm g n oA (sAt g n false (sSum g n k))
def sAtm (g : Int → Int) (n : Int) : Nat → Int → Int × Int
  | 0 => sAt g n true sNo
  | k + 1 => sAt g n false (sSum g n k)
theorem sSum_eq (g : Int → Int) (n : Int) (k : Nat) : sSum g n k = sTm g n oA (sAtm g n k) := by
  cases k <;> rfl
theorem sAtm_mono (g : Int → Int) (n : Int) : ∀ (k : Nat) (a : Int), (sAtm g n k a).1 = 1 → a < (sAtm g n k a).2 := by
  intro k
  induction k with
  | zero => exact fun a h => sAt_mono (fun z => absurd z (by decide)) a h
  | succ k ih => exact fun a h => sAt_mono (fun _ a h => by rw [sSum_eq] at h ⊢; exact sTm_mono ih a h) a h
theorem sSum_mono (g : Int → Int) (n : Int) (k : Nat) (a : Int) (h : (sSum g n k a).1 = 1) : a < (sSum g n k a).2 := by
  rw [sSum_eq] at h ⊢
  exact sTm_mono (sAtm_mono g n k) a h
theorem sAtm_sk (g : Int → Int) (n : Int) (k : Nat) (a : Int) : sAtm g n k (sk g n a) = sAtm g n k a := by
  cases k
  · exact sAt_sk g n true sNo a
  · exact sAt_sk g n false _ a
theorem sTm_sk {g : Int → Int} {n : Int} {op : Int → Bool} {f : Int → Int × Int} (hs : ∀ a, f (sk g n a) = f a) (a : Int) : sTm g n op f (sk g n a) = sTm g n op f a := by
  unfold sTm
  rw [hs]
theorem sSum_sk (g : Int → Int) (n : Int) (k : Nat) (a : Int) : sSum g n k (sk g n a) = sSum g n k a := by
  rw [sSum_eq]
  exact sTm_sk (sAtm_sk g n k) a
def sCmp (g : Int → Int) (n : Int) (s : Int → Int × Int) (a : Int) : Int × Int :=
  if g (sk g n a) = 61 ∨ g (sk g n a) = 60 ∨ g (sk g n a) = 62 then s (sk g n a + 1) else (0, sk g n a)
/-- a closing sign -/
def sEnd (g : Int → Int) (n c : Int) (x : Int × Int) : Int × Int :=
  if x.1 = 1 then (if g (sk g n x.2) = c then (1, sk g n x.2 + 1) else (0, sk g n x.2)) else (0, x.2)
def sUn1 (g : Int → Int) (n : Int) (top : Bool) (s u : Int → Int × Int) (a : Int) : Int × Int :=
  if g (sk g n a) = 33 then (if top = true then (0, sk g n a) else u (sk g n a + 1))
  else if g (sk g n a) = 40 then (if top = true then (0, sk g n a) else sEnd g n 41 (sTm g n oC u (sk g n a + 1)))
  else if (s a).1 = 1 then sCmp g n s (s a).2 else (0, (s a).2)
def sUn (g : Int → Int) (n : Int) : Nat → Int → Int × Int
  | 0 => sUn1 g n true (sSum g n 0) sNo
  | k + 1 => sUn1 g n false (sSum g n (k + 1)) (sUn g n k)
def sCon (g : Int → Int) (n : Int) (k : Nat) (a : Int) : Int × Int := sTm g n oC (sUn g n k) a
def sQm (g : Int → Int) (n : Int) (x : Int × Int) : Int × Int :=
  if x.1 = 1 then (if g (sk g n x.2) = 63 then sSum g n 6 (sk g n x.2 + 1) else (0, sk g n x.2)) else (0, x.2)
/-- a condition whose first sum stands already -/
def sGo (g : Int → Int) (n : Int) (a : Int) : Int × Int :=
  if (sCmp g n (sSum g n 6) a).1 = 1 then sLp g n oC (sUn g n 6) (sk g n (sCmp g n (sSum g n 6) a).2) else (0, (sCmp g n (sSum g n 6) a).2)
def sCl2 (g : Int → Int) (n : Int) (a : Int) : Int × Int :=
  if g (sk g n a) = 33 ∨ g (sk g n a) = 40 then sQm g n (sCon g n 6 a)
  else if (sSum g n 6 a).1 = 1 then
    (if g (sk g n (sSum g n 6 a).2) = 61 ∨ g (sk g n (sSum g n 6 a).2) = 60 ∨ g (sk g n (sSum g n 6 a).2) = 62 then sQm g n (sGo g n (sSum g n 6 a).2) else (1, sk g n (sSum g n 6 a).2))
  else (0, (sSum g n 6 a).2)
def sCl (g : Int → Int) (n : Int) (a : Int) : Int × Int :=
  if g (sk g n a) = 121 then (if g (sk g n (sk g n a + 1)) = 58 then sCl2 g n (sk g n (sk g n a + 1) + 1) else (0, sk g n (sk g n a + 1))) else (0, sk g n a)
def sFin (g : Int → Int) (n : Int) (x : Int × Int) : Int := if x.1 = 1 then (if n ≤ sk g n x.2 then -1 else sk g n x.2) else x.2
/-- the fault of a law; -1: none -/
def sLaw (g : Int → Int) (n : Int) : Int := sFin g n (sTm g n oS (sCl g n) 0)
