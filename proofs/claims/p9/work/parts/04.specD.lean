def sDv (g : Int → Int) (p : Int) : Nat → Int
  | 0 => 0
  | k + 1 => 10 * sDv g p k + (g (p + (k : Int)) - 48)
def sNv (g : Int → Int) (p : Int) : Int := sDv g p ((sNum g p).2 - p).toNat
def eLt (c : Int) : Int := if c = 102 then 0 else if c = 119 then 1 else if c = 121 then 2 else if c = 115 then 3 else if c = 97 then 4 else 5
def eW (wt : Int) : List (Int × Int) := if wt = 0 then [] else [(wt, 0)]
def eS1 (g : Int → Int) (n : Int) (op op1 : Int → Bool) (F : Int → Int × Int) (E : Int → List (Int × Int)) (wt p : Int) : List (Int × Int) :=
  if _h : p < n ∧ op (g p) = true then
    (if (F (p + 1)).1 = 1 then
      (if _h2 : p < sk g n (F (p + 1)).2 then
        (if op1 (g p) = true then E (p + 1) ++ ((g p, 0) :: eS1 g n op op1 F E wt (sk g n (F (p + 1)).2))
         else eW wt ++ (E (p + 1) ++ eS1 g n op op1 F E (g p) (sk g n (F (p + 1)).2)))
      else [])
    else [])
  else eW wt
termination_by (n - p).toNat
decreasing_by
  · omega
  · omega
theorem eS1_end {g : Int → Int} {n : Int} {op op1 : Int → Bool} {F : Int → Int × Int} {E : Int → List (Int × Int)} {wt p : Int} (h : ¬ (p < n ∧ op (g p) = true)) : eS1 g n op op1 F E wt p = eW wt := by
  rw [eS1, dif_neg h]
theorem eS1_y {g : Int → Int} {n : Int} {op op1 : Int → Bool} {F : Int → Int × Int} {E : Int → List (Int × Int)} {wt p : Int} (h1 : p < n) (h2 : op (g p) = true) (h3 : (F (p + 1)).1 = 1) (h4 : p < sk g n (F (p + 1)).2) (h5 : op1 (g p) = true) : eS1 g n op op1 F E wt p = E (p + 1) ++ ((g p, 0) :: eS1 g n op op1 F E wt (sk g n (F (p + 1)).2)) := by
  rw [eS1, dif_pos ⟨h1, h2⟩, if_pos h3, dif_pos h4, if_pos h5]
theorem eS1_n {g : Int → Int} {n : Int} {op op1 : Int → Bool} {F : Int → Int × Int} {E : Int → List (Int × Int)} {wt p : Int} (h1 : p < n) (h2 : op (g p) = true) (h3 : (F (p + 1)).1 = 1) (h4 : p < sk g n (F (p + 1)).2) (h5 : ¬ op1 (g p) = true) : eS1 g n op op1 F E wt p = eW wt ++ (E (p + 1) ++ eS1 g n op op1 F E (g p) (sk g n (F (p + 1)).2)) := by
  rw [eS1, dif_pos ⟨h1, h2⟩, if_pos h3, dif_pos h4, if_neg h5]
def eL (g : Int → Int) (n : Int) (op : Int → Bool) (F : Int → Int × Int) (E : Int → List (Int × Int)) (p : Int) : List (Int × Int) :=
  if _h : p < n ∧ op (g p) = true then
    (if (F (p + 1)).1 = 1 then
      (if _h2 : p < sk g n (F (p + 1)).2 then E (p + 1) ++ ((g p, 0) :: eL g n op F E (sk g n (F (p + 1)).2)) else [])
    else [])
  else []
termination_by (n - p).toNat
decreasing_by omega
theorem eL_end {g : Int → Int} {n : Int} {op : Int → Bool} {F : Int → Int × Int} {E : Int → List (Int × Int)} {p : Int} (h : ¬ (p < n ∧ op (g p) = true)) : eL g n op F E p = [] := by
  rw [eL, dif_neg h]
theorem eL_go {g : Int → Int} {n : Int} {op : Int → Bool} {F : Int → Int × Int} {E : Int → List (Int × Int)} {p : Int} (h1 : p < n) (h2 : op (g p) = true) (h3 : (F (p + 1)).1 = 1) (h4 : p < sk g n (F (p + 1)).2) : eL g n op F E p = E (p + 1) ++ ((g p, 0) :: eL g n op F E (sk g n (F (p + 1)).2)) := by
  rw [eL, dif_pos ⟨h1, h2⟩, if_pos h3, dif_pos h4]
def eTm (g : Int → Int) (n : Int) (op : Int → Bool) (F : Int → Int × Int) (E : Int → List (Int × Int)) (a : Int) : List (Int × Int) := E a ++ eL g n op F E (sk g n (F a).2)
theorem eS1_two {g : Int → Int} {n : Int} {op op1 op2 : Int → Bool} {F : Int → Int × Int} {E : Int → List (Int × Int)} (hop : ∀ c, op c = (op1 c || op2 c)) (hx : ∀ c, op1 c = true → ¬ op2 c = true) (hz : ∀ c, op2 c = true → ¬ c = 0) (hm : ∀ a, (F a).1 = 1 → a < (F a).2) : ∀ (k : Nat) (p wt : Int), (n - p).toNat ≤ k → sk g n p = p → (sLp g n op F p).1 = 1 →
    eS1 g n op op1 F E wt p = eL g n op1 F E p ++ (eW wt ++ eL g n op2 (sTm g n op1 F) (eTm g n op1 F E) (sLp g n op1 F p).2) := by
  intro k
  induction k with
  | zero =>
    intro p wt hk hp _
    have z : ¬ p < n := by omega
    rw [eS1_end (fun q => z q.1), eL_end (fun q => z q.1), sLp_end (op := op1) (fun q => z q.1), eL_end (fun q => z q.1), List.nil_append, List.append_nil]
  | succ k ih =>
    intro p wt hk hp hg
    by_cases q : p < n
    · by_cases h1 : op1 (g p) = true
      · have h0 : op (g p) = true := by rw [hop, h1]; rfl
        by_cases hf : (F (p + 1)).1 = 1
        · have h2 := hm _ hf
          have h3 := sk_ge g n (F (p + 1)).2
          rw [sLp_go q h0 hf (by omega)] at hg
          rw [eS1_y q h0 hf (by omega) h1, eL_go q h1 hf (by omega), sLp_go q h1 hf (by omega), ih _ wt (by omega) (sk_id g n _) hg, List.append_assoc]
          rfl
        · rw [sLp_bad q h0 hf] at hg
          exact absurd hg zne1
      · have e1 : sLp g n op1 F p = (1, p) := sLp_end (fun z => h1 z.2)
        rw [eL_end (fun z => h1 z.2), e1, List.nil_append]
        show _ = eW wt ++ eL g n op2 (sTm g n op1 F) (eTm g n op1 F E) p
        by_cases h2 : op2 (g p) = true
        · have h0 : op (g p) = true := by rw [hop, h2, Bool.or_true]
          by_cases hf : (F (p + 1)).1 = 1
          · have h3 := hm _ hf
            have h4 := sk_ge g n (F (p + 1)).2
            have et : sTm g n op1 F (p + 1) = sLp g n op1 F (sk g n (F (p + 1)).2) := by unfold sTm; rw [if_pos hf]
            rw [sLp_go q h0 hf (by omega)] at hg
            have hg2 := hg
            rw [sLp_two hop hm _ _ (Nat.le_refl _) (sk_id g n _)] at hg2
            by_cases ht : (sLp g n op1 F (sk g n (F (p + 1)).2)).1 = 1
            · obtain ⟨h5, h6⟩ := sLp_ge (op := op1) hm _ _ (Nat.le_refl _) (sk_id g n (F (p + 1)).2) ht
              rw [eS1_n q h0 hf (by omega) h1, ih _ (g p) (by omega) (sk_id g n _) hg, eL_go (op := op2) (F := sTm g n op1 F) q h2 (by rw [et]; exact ht) (by rw [et, h6]; omega), et, h6]
              unfold eTm eW
              rw [if_neg (hz _ h2)]
              simp only [List.append_assoc, List.cons_append, List.nil_append]
            · rw [if_neg ht] at hg2
              exact absurd hg2 zne1
          · rw [sLp_bad q h0 hf] at hg
            exact absurd hg zne1
        · have h0 : ¬ op (g p) = true := by rw [hop, Bool.or_eq_true]; exact fun z => z.elim h1 h2
          rw [eS1_end (fun z => h0 z.2), eL_end (fun z => h2 z.2), List.append_nil]
    · rw [eS1_end (fun z => q z.1), eL_end (fun z => q z.1), sLp_end (op := op1) (fun z => q z.1), eL_end (fun z => q z.1), List.nil_append, List.append_nil]
def eAt (g : Int → Int) (n : Int) (top : Bool) (ES : Int → List (Int × Int)) (a : Int) : List (Int × Int) :=
  if g (sk g n a) = 91 then (if top = true then [] else ES (sk g n a + 1))
  else if g (sk g n a) = 102 ∨ g (sk g n a) = 119 ∨ g (sk g n a) = 121 ∨ g (sk g n a) = 115 ∨ g (sk g n a) = 97 ∨ g (sk g n a) = 109 then [(2, eLt (g (sk g n a)))]
  else [(1, sNv g (sk g n a))]
def eSum (g : Int → Int) (n : Int) : Nat → Int → List (Int × Int)
  | 0 => fun a => eAt g n true (fun _ => []) a ++ eS1 g n oA oM (sAtm g n 0) (eAt g n true (fun _ => [])) 0 (sk g n (sAtm g n 0 a).2)
  | k + 1 => fun a => eAt g n false (eSum g n k) a ++ eS1 g n oA oM (sAtm g n (k + 1)) (eAt g n false (eSum g n k)) 0 (sk g n (sAtm g n (k + 1) a).2)
def eAtm (g : Int → Int) (n : Int) : Nat → Int → List (Int × Int)
  | 0 => eAt g n true (fun _ => [])
  | k + 1 => eAt g n false (eSum g n k)
theorem eSum_eq (g : Int → Int) (n : Int) (k : Nat) (a : Int) : eSum g n k a = eAtm g n k a ++ eS1 g n oA oM (sAtm g n k) (eAtm g n k) 0 (sk g n (sAtm g n k a).2) := by
  cases k <;> rfl
def eCmp (g : Int → Int) (n : Int) (ES : Int → List (Int × Int)) (a : Int) : List (Int × Int) := ES (sk g n a + 1) ++ [(g (sk g n a), 0)]
def eUn1 (g : Int → Int) (n : Int) (S : Int → Int × Int) (ES : Int → List (Int × Int)) (U : Int → Int × Int) (EU : Int → List (Int × Int)) (a : Int) : List (Int × Int) :=
  if g (sk g n a) = 33 then EU (sk g n a + 1) ++ [(33, 0)]
  else if g (sk g n a) = 40 then EU (sk g n a + 1) ++ eS1 g n oC oD U EU 0 (sk g n (U (sk g n a + 1)).2)
  else ES a ++ eCmp g n ES (S a).2
def eUn (g : Int → Int) (n : Int) : Nat → Int → List (Int × Int)
  | 0 => eUn1 g n (sSum g n 0) (eSum g n 0) sNo (fun _ => [])
  | k + 1 => eUn1 g n (sSum g n (k + 1)) (eSum g n (k + 1)) (sUn g n k) (eUn g n k)
def eCon (g : Int → Int) (n : Int) (k : Nat) (a : Int) : List (Int × Int) := eUn g n k a ++ eS1 g n oC oD (sUn g n k) (eUn g n k) 0 (sk g n (sUn g n k a).2)
def eGo (g : Int → Int) (n : Int) (a : Int) : List (Int × Int) := eCmp g n (eSum g n 6) a ++ eS1 g n oC oD (sUn g n 6) (eUn g n 6) 0 (sk g n (sCmp g n (sSum g n 6) a).2)
def eB2 (g : Int → Int) (n : Int) (a : Int) : Bool := decide (g (sk g n a) = 33 ∨ g (sk g n a) = 40 ∨ g (sk g n (sSum g n 6 a).2) = 61 ∨ g (sk g n (sSum g n 6 a).2) = 60 ∨ g (sk g n (sSum g n 6 a).2) = 62)
def eT2 (g : Int → Int) (n : Int) (a : Int) : List (Int × Int) := if g (sk g n a) = 33 ∨ g (sk g n a) = 40 then eCon g n 6 a else eSum g n 6 a ++ eGo g n (sSum g n 6 a).2
def eS2 (g : Int → Int) (n : Int) (a : Int) : List (Int × Int) := if g (sk g n a) = 33 ∨ g (sk g n a) = 40 then eSum g n 6 (sk g n (sCon g n 6 a).2 + 1) else if eB2 g n a = true then eSum g n 6 (sk g n (sGo g n (sSum g n 6 a).2).2 + 1) else eSum g n 6 a
def eCl2 (g : Int → Int) (n : Int) (a : Int) : List (Int × Int) := if eB2 g n a = true then eT2 g n a ++ ((63, 0) :: (eS2 g n a ++ [(59, 0)])) else eS2 g n a ++ [(59, 0)]
def eAf (g : Int → Int) (n : Int) (a : Int) : Int := sk g n (sk g n a + 1) + 1
def eCl (g : Int → Int) (n : Int) (a : Int) : List (Int × Int) := eCl2 g n (eAf g n a)
def eLw (g : Int → Int) (n : Int) (p : Int) : List (Int × Int) :=
  if _h : p < n ∧ oS (g p) = true then
    (if (sCl g n (p + 1)).1 = 1 then
      (if _h2 : p < sk g n (sCl g n (p + 1)).2 then eCl g n (p + 1) ++ eLw g n (sk g n (sCl g n (p + 1)).2) else [])
    else [])
  else []
termination_by (n - p).toNat
decreasing_by omega
def eLaw (g : Int → Int) (n : Int) : List (Int × Int) := eCl g n 0 ++ eLw g n (sk g n (sCl g n 0).2)
