def sCw (c : zK3) (S : zS) (lw : Option ((Int → Int) × Int)) (p b : Int32) (v : Nat) : Nat → Nat
  | 0 => 0
  | k + 1 => if sFt c S b (Int32.ofNat k) ∧ (sShow c S lw p b (Int32.ofNat k)).toInt = (v : Int) then sCw c S lw p b v k + 1 else sCw c S lw p b v k
def sMx (g : Nat → Nat) : Nat → Nat
  | 0 => 0
  | k + 1 => if sMx g k < g k then g k else sMx g k
def sAl (c : zK3) (S : zS) (lw : Option ((Int → Int) × Int)) (p b : Int32) : Nat := sMx (fun v => sCw c S lw p b v 10) 10
theorem sCw_b {c : zK3} {S : zS} {lw : Option ((Int → Int) × Int)} {p b : Int32} {v : Nat} : ∀ k : Nat, sCw c S lw p b v k ≤ k := by
  intro k
  induction k with
  | zero => exact Nat.le_refl _
  | succ k ih =>
    unfold sCw
    by_cases q : sFt c S b (Int32.ofNat k) ∧ (sShow c S lw p b (Int32.ofNat k)).toInt = (v : Int)
    · rw [if_pos q]
      omega
    · rw [if_neg q]
      omega
theorem sMx_le {g : Nat → Nat} {m : Nat} (h : ∀ v : Nat, g v ≤ m) : ∀ k : Nat, sMx g k ≤ m := by
  intro k
  induction k with
  | zero => exact Nat.zero_le _
  | succ k ih =>
    have z := h k
    unfold sMx
    by_cases q : sMx g k < g k
    · rw [if_pos q]
      exact z
    · rw [if_neg q]
      exact ih
theorem sMx_c {g g' : Nat → Nat} : ∀ k : Nat, (∀ v : Nat, v < k → g v = g' v) → sMx g k = sMx g' k := by
  intro k
  induction k with
  | zero => intro _; rfl
  | succ k ih =>
    intro h
    unfold sMx
    rw [h k (by omega), ih (fun v hv => h v (by omega))]
theorem sMx_up {g g' : Nat → Nat} {s : Nat} (h1 : ∀ v : Nat, ¬ v = s → g' v = g v) (h2 : g' s = g s + 1) : ∀ k : Nat, (k ≤ s → sMx g' k = sMx g k) ∧ (s < k → sMx g' k = if sMx g k < g s + 1 then g s + 1 else sMx g k) := by
  intro k
  induction k with
  | zero => exact ⟨fun _ => rfl, fun h => absurd h (by omega)⟩
  | succ k ih =>
    refine ⟨fun h => ?_, fun h => ?_⟩
    · unfold sMx
      rw [ih.1 (by omega), h1 k (by omega)]
    · by_cases q : k = s
      · have e := ih.1 (by omega)
        unfold sMx
        rw [e, q, h2]
        rw [q] at e
        by_cases p : sMx g s < g s + 1
        · rw [if_pos p]
          by_cases p2 : sMx g s < g s
          · rw [if_pos p2, if_pos (by omega)]
          · rw [if_neg p2, if_pos p]
        · have p2 : ¬ sMx g s < g s := by omega
          rw [if_neg p, if_neg p2, if_neg p]
      · have e := ih.2 (by omega)
        unfold sMx
        rw [e, h1 k q]
        by_cases p : sMx g k < g s + 1
        · rw [if_pos p]
          by_cases p2 : sMx g k < g k
          · rw [if_pos p2]
            by_cases p3 : g s + 1 < g k
            · rw [if_pos p3, if_neg (by omega)]
            · rw [if_neg p3]
              by_cases p4 : g k < g s + 1
              · rw [if_pos p4]
              · rw [if_neg p4]
                omega
          · rw [if_neg p2, if_neg (by omega), if_pos p]
        · rw [if_neg p]
          by_cases p2 : sMx g k < g k
          · rw [if_pos p2, if_neg (by omega)]
          · rw [if_neg p2, if_neg p]
def zAk2 (c : zK3) (S : zS) (lw : Option ((Int → Int) × Int)) (p b : Int32) (A : Nat → Int32) (m : Int32) (k : Nat) : Prop := (∀ v : Nat, v < 10 → (A v).toInt = (sCw c S lw p b v k : Int)) ∧ m.toInt = (sMx (fun v => sCw c S lw p b v k) 10 : Int)
theorem zAk2_0 {c : zK3} {S : zS} {lw : Option ((Int → Int) × Int)} {p b : Int32} {A : Nat → Int32} (h : ∀ v : Nat, v < 10 → A v = 0) : zAk2 c S lw p b A 0 (0 : Int32).toInt.toNat := ⟨fun v hv => by rw [h v hv]; rfl, by
  show (0 : Int32).toInt = _
  have z : sMx (fun v => sCw c S lw p b v (0 : Int32).toInt.toNat) 10 = 0 := Nat.le_zero.mp (sMx_le (fun v => Nat.le_refl _) 10)
  rw [z]
  decide⟩
theorem zAk2N {c : zK3} {S : zS} {lw : Option ((Int → Int) × Int)} {p b m i i' : Int32} {A : Nat → Int32} (h : zAk2 c S lw p b A m i.toInt.toNat) (h0 : 0 ≤ i.toInt) (hi : i'.toInt = i.toInt + 1) (hf : ¬ sFt c S b i) : zAk2 c S lw p b A m i'.toInt.toNat := by
  have e : ∀ v : Nat, sCw c S lw p b v i'.toInt.toNat = sCw c S lw p b v i.toInt.toNat := fun v => by
    rw [show i'.toInt.toNat = i.toInt.toNat + 1 by omega]
    refine if_neg (fun z => hf ?_)
    have z1 := z.1
    rw [← zk32 h0] at z1
    exact z1
  refine ⟨fun v hv => by rw [e v]; exact h.1 v hv, h.2.trans ?_⟩
  rw [sMx_c 10 (fun v _ => e v)]
theorem zAk2Y {c : zK3} {S : zS} {lw : Option ((Int → Int) × Int)} {p b m m' s u x i i' : Int32} {A A' : Nat → Int32} (h : zAk2 c S lw p b A m i.toInt.toNat) (h0 : 0 ≤ i.toInt) (h9 : i.toInt ≤ 9) (hi : i'.toInt = i.toInt + 1) (hf : sFt c S b i) (hs : s = sShow c S lw p b i) (s0 : 0 ≤ s.toInt) (s9 : s.toInt ≤ 9) (eu : u = A s.toNatClampNeg) (ex : x = u + 1) (eA : A' = upd A s.toNatClampNeg x) (hm : (m'.toInt = m.toInt ∧ (A' s.toNatClampNeg).toInt ≤ m.toInt) ∨ (m'.toInt = (A' s.toNatClampNeg).toInt ∧ m.toInt ≤ (A' s.toNatClampNeg).toInt)) : zAk2 c S lw p b A' m' i'.toInt.toNat := by
  have ss : s.toNatClampNeg = s.toInt.toNat := rfl
  rw [ss] at eu eA hm
  have ee : i'.toInt.toNat = i.toInt.toNat + 1 := by omega
  have e1 : ∀ v : Nat, ¬ v = s.toInt.toNat → sCw c S lw p b v i'.toInt.toNat = sCw c S lw p b v i.toInt.toNat := fun v hv => by
    rw [ee]
    refine if_neg (fun z => hv ?_)
    have z1 := z.2
    rw [← zk32 h0, ← hs] at z1
    omega
  have e2 : sCw c S lw p b s.toInt.toNat i'.toInt.toNat = sCw c S lw p b s.toInt.toNat i.toInt.toNat + 1 := by
    rw [ee]
    refine if_pos ⟨?_, ?_⟩
    · rw [← zk32 h0]
      exact hf
    · rw [← zk32 h0, ← hs]
      omega
  have a := h.1 s.toInt.toNat (by omega)
  have b1 := sCw_b (c := c) (S := S) (lw := lw) (p := p) (b := b) (v := s.toInt.toNat) i.toInt.toNat
  rw [← eu] at a
  have x1 : x.toInt = u.toInt + 1 := zadd ex rfl (by decide) (by omega) (by omega)
  have y : A' s.toInt.toNat = x := by rw [eA, pk_us]
  refine ⟨fun v hv => ?_, ?_⟩
  · by_cases q : v = s.toInt.toNat
    · rw [q, y, e2]
      omega
    · rw [e1 v q, eA, pk_un q]
      exact h.1 v hv
  · have z := (sMx_up (g := fun v => sCw c S lw p b v i.toInt.toNat) (g' := fun v => sCw c S lw p b v i'.toInt.toNat) (s := s.toInt.toNat) e1 e2 10).2 (by omega)
    have m1 := h.2
    rw [y] at hm
    rw [z]
    by_cases q : sMx (fun v => sCw c S lw p b v i.toInt.toNat) 10 < sCw c S lw p b s.toInt.toNat i.toInt.toNat + 1
    · rw [if_pos q]
      omega
    · rw [if_neg q]
      omega
theorem sAl_b {c : zK3} {S : zS} {lw : Option ((Int → Int) × Int)} {p b : Int32} : sAl c S lw p b ≤ 10 := sMx_le (fun v => sCw_b 10) 10
theorem zAk2E {c : zK3} {S : zS} {lw : Option ((Int → Int) × Int)} {p b m i : Int32} {A : Nat → Int32} (h : zAk2 c S lw p b A m i.toInt.toNat) (hi : i.toInt = 10) : m.toInt = (sAl c S lw p b : Int) := by
  have z := h.2
  rw [hi] at z
  exact z
theorem zCwY {c : zK3} {S : zS} {lw : Option ((Int → Int) × Int)} {p b v x x' s i i' : Int32} (h : x.toInt = (sCw c S lw p b v.toInt.toNat i.toInt.toNat : Int)) (h0 : 0 ≤ i.toInt) (hv : 0 ≤ v.toInt) (hi : i'.toInt = i.toInt + 1) (hf : sFt c S b i) (hs : s = sShow c S lw p b i) (hc : s.toInt = v.toInt) (e : x'.toInt = x.toInt + 1) : x'.toInt = (sCw c S lw p b v.toInt.toNat i'.toInt.toNat : Int) := by
  rw [show i'.toInt.toNat = i.toInt.toNat + 1 by omega]
  unfold sCw
  rw [← zk32 h0, if_pos ⟨hf, by rw [← hs]; omega⟩]
  omega
theorem zCwN {c : zK3} {S : zS} {lw : Option ((Int → Int) × Int)} {p b v x x' i i' : Int32} (h : x.toInt = (sCw c S lw p b v.toInt.toNat i.toInt.toNat : Int)) (h0 : 0 ≤ i.toInt) (hv : 0 ≤ v.toInt) (hi : i'.toInt = i.toInt + 1) (hn : ¬ (sFt c S b i ∧ (sShow c S lw p b i).toInt = v.toInt)) (e : x'.toInt = x.toInt) : x'.toInt = (sCw c S lw p b v.toInt.toNat i'.toInt.toNat : Int) := by
  rw [show i'.toInt.toNat = i.toInt.toNat + 1 by omega]
  unfold sCw
  rw [← zk32 h0, if_neg (fun z => hn ⟨z.1, by have z2 := z.2; omega⟩)]
  omega
theorem zMxS {g : Nat → Nat} {i i' x m m' : Int32} (h : m.toInt = (sMx g i.toInt.toNat : Int)) (h0 : 0 ≤ i.toInt) (hi : i'.toInt = i.toInt + 1) (hx : x.toInt = (g i.toInt.toNat : Int)) (hm : (m'.toInt = m.toInt ∧ x.toInt ≤ m.toInt) ∨ (m'.toInt = x.toInt ∧ m.toInt ≤ x.toInt)) : m'.toInt = (sMx g i'.toInt.toNat : Int) := by
  rw [show i'.toInt.toNat = i.toInt.toNat + 1 by omega]
  unfold sMx
  by_cases q : sMx g i.toInt.toNat < g i.toInt.toNat
  · rw [if_pos q]
    omega
  · rw [if_neg q]
    omega
abbrev sKi (c : zK3) (p : Nat) : Prop := ¬ (c.2.2 (4 * p + 3)).toInt = 3
def sNe (c : zK3) (S : zS) (lw : Option ((Int → Int) × Int)) (b : Int32) : Nat → Int × Nat
  | 0 => (-1, 0)
  | k + 1 => if sKi c k ∧ ((sNe c S lw b k).1 = -1 ∨ sAl c S lw (Int32.ofNat k) b < (sNe c S lw b k).2) then ((k : Int), sAl c S lw (Int32.ofNat k) b) else sNe c S lw b k
def sV_nex (nb : Int) (np : Nat) (c : zK3) (S : zS) (lw : Option ((Int → Int) × Int)) (b : Int32) : Int := if 0 ≤ b.toInt ∧ b.toInt < nb then (sNe c S lw b np).1 else -1
def zNeC (c : zK3) (S : zS) (lw : Option ((Int → Int) × Int)) (b best few : Int32) (k : Nat) : Prop := best.toInt = (sNe c S lw b k).1 ∧ (((sNe c S lw b k).1 = -1 ∧ few.toInt = 11) ∨ (0 ≤ (sNe c S lw b k).1 ∧ few.toInt = ((sNe c S lw b k).2 : Int)))
theorem zNeC_0 {c : zK3} {S : zS} {lw : Option ((Int → Int) × Int)} {b : Int32} : zNeC c S lw b (-1) 11 (0 : Int32).toInt.toNat := by
  rw [show (0 : Int32).toInt.toNat = 0 by decide]
  exact ⟨by show (-1 : Int32).toInt = (-1 : Int); decide, Or.inl ⟨rfl, by decide⟩⟩
theorem zNeCN {c : zK3} {S : zS} {lw : Option ((Int → Int) × Int)} {b best few i i' : Int32} (h : zNeC c S lw b best few i.toInt.toNat) (h0 : 0 ≤ i.toInt) (hi : i'.toInt = i.toInt + 1) (hn : (c.2.2 (4 * i.toInt.toNat + 3)).toInt = 3 ∨ ∃ m : Int32, m.toInt = (sAl c S lw i b : Int) ∧ few.toInt ≤ m.toInt) : zNeC c S lw b best few i'.toInt.toNat := by
  have e : sNe c S lw b i'.toInt.toNat = sNe c S lw b i.toInt.toNat := by
    rw [show i'.toInt.toNat = i.toInt.toNat + 1 by omega]
    refine if_neg (fun z => ?_)
    rcases hn with q | ⟨m, q1, q2⟩
    · exact z.1 q
    · have z2 := z.2
      rw [← zk32 h0] at z2
      have a := sAl_b (c := c) (S := S) (lw := lw) (p := i) (b := b)
      rcases h.2 with ⟨h1, h2⟩ | ⟨h1, h2⟩
      · omega
      · omega
  unfold zNeC
  rw [e]
  exact h
theorem zNeCY {c : zK3} {S : zS} {lw : Option ((Int → Int) × Int)} {b best few m i i' : Int32} (h : zNeC c S lw b best few i.toInt.toNat) (h0 : 0 ≤ i.toInt) (hi : i'.toInt = i.toInt + 1) (hk : ¬ (c.2.2 (4 * i.toInt.toNat + 3)).toInt = 3) (hm : m.toInt = (sAl c S lw i b : Int)) (hlt : m.toInt < few.toInt) : zNeC c S lw b i m i'.toInt.toNat := by
  have e : sNe c S lw b i'.toInt.toNat = ((i.toInt.toNat : Int), sAl c S lw i b) := by
    rw [show i'.toInt.toNat = i.toInt.toNat + 1 by omega]
    have y : sAl c S lw (Int32.ofNat i.toInt.toNat) b = sAl c S lw i b := by rw [← zk32 h0]
    refine (if_pos ⟨hk, ?_⟩).trans ?_
    · rw [y]
    · rw [y]
      rcases h.2 with ⟨h1, h2⟩ | ⟨h1, h2⟩
      · exact Or.inl h1
      · exact Or.inr (by omega)
  unfold zNeC
  rw [e]
  dsimp only
  exact ⟨by omega, Or.inr ⟨by omega, hm⟩⟩
def zNeR (c : zK3) (S : zS) (lw : Option ((Int → Int) × Int)) (b best lst : Int32) (k : Nat) : Prop := best.toInt = (sNe c S lw b k).1 ∧ ((sNe c S lw b k).1 = -1 ∨ (0 ≤ (sNe c S lw b k).1 ∧ lst.toInt = ((sNe c S lw b k).2 : Int)))
theorem zNeR_0 {c : zK3} {S : zS} {lw : Option ((Int → Int) × Int)} {b : Int32} : zNeR c S lw b (-1) 0 (0 : Int32).toInt.toNat := by
  rw [show (0 : Int32).toInt.toNat = 0 by decide]
  exact ⟨by show (-1 : Int32).toInt = (-1 : Int); decide, Or.inl rfl⟩
theorem zNeRN {c : zK3} {S : zS} {lw : Option ((Int → Int) × Int)} {b best lst i i' : Int32} (h : zNeR c S lw b best lst i.toInt.toNat) (h0 : 0 ≤ i.toInt) (hi : i'.toInt = i.toInt + 1) (hn : (c.2.2 (4 * i.toInt.toNat + 3)).toInt = 3 ∨ (¬ best.toInt = -1 ∧ ∃ m : Int32, m.toInt = (sAl c S lw i b : Int) ∧ lst.toInt ≤ m.toInt)) : zNeR c S lw b best lst i'.toInt.toNat := by
  have e : sNe c S lw b i'.toInt.toNat = sNe c S lw b i.toInt.toNat := by
    rw [show i'.toInt.toNat = i.toInt.toNat + 1 by omega]
    refine if_neg (fun z => ?_)
    rcases hn with q | ⟨q0, m, q1, q2⟩
    · exact z.1 q
    · have z2 := z.2
      rw [← zk32 h0] at z2
      have h1 := h.1
      rcases h.2 with h2 | ⟨h2, h3⟩
      · omega
      · omega
  unfold zNeR
  rw [e]
  exact h
theorem zNeRY {c : zK3} {S : zS} {lw : Option ((Int → Int) × Int)} {b best lst m i i' : Int32} (h : zNeR c S lw b best lst i.toInt.toNat) (h0 : 0 ≤ i.toInt) (hi : i'.toInt = i.toInt + 1) (hk : ¬ (c.2.2 (4 * i.toInt.toNat + 3)).toInt = 3) (hm : m.toInt = (sAl c S lw i b : Int)) (hlt : best.toInt = -1 ∨ ∃ m2 : Int32, m2.toInt = (sAl c S lw i b : Int) ∧ m2.toInt < lst.toInt) : zNeR c S lw b i m i'.toInt.toNat := by
  have e : sNe c S lw b i'.toInt.toNat = ((i.toInt.toNat : Int), sAl c S lw i b) := by
    rw [show i'.toInt.toNat = i.toInt.toNat + 1 by omega]
    have y : sAl c S lw (Int32.ofNat i.toInt.toNat) b = sAl c S lw i b := by rw [← zk32 h0]
    refine (if_pos ⟨hk, ?_⟩).trans ?_
    · rw [y]
    · rw [y]
      have h1 := h.1
      rcases h.2 with h2 | ⟨h2, h3⟩
      · exact Or.inl h2
      · rcases hlt with q | ⟨m2, q1, q2⟩
        · exact Or.inl (by omega)
        · exact Or.inr (by omega)
  unfold zNeR
  rw [e]
  dsimp only
  exact ⟨by omega, Or.inr ⟨by omega, hm⟩⟩
