def aPr : List (Nat × Nat) := [(0, 1), (0, 2), (0, 3), (0, 4), (0, 5), (0, 6), (0, 7), (0, 8), (0, 9), (1, 2), (1, 3), (1, 4), (1, 5), (1, 6), (1, 7), (1, 8), (1, 9), (2, 3), (2, 4), (2, 5), (2, 6), (2, 7), (2, 8), (2, 9), (3, 4), (3, 5), (3, 6), (3, 7), (3, 8), (3, 9), (4, 5), (4, 6), (4, 7), (4, 8), (4, 9), (5, 6), (5, 7), (5, 8), (5, 9), (6, 7), (6, 8), (6, 9), (7, 8), (7, 9), (8, 9)]
theorem aPr_i : ∀ f g : Fin 10, f.val < g.val → aPr[ztri f.val + (g.val - f.val - 1)]? = some (f.val, g.val) := by decide
theorem aPr_b : ∀ q ∈ aPr, q.1 < q.2 ∧ q.2 < 10 := by decide
theorem aPr_l : aPr.length = 45 := by decide
theorem zPk_at {α : Type} {φ : α → Bool} {l : List α} {n : Nat} {q : α} (h : l[n]? = some q) : (φ q = true → (l.filter φ)[((l.take n).filter φ).length]? = some q ∧ ((l.take (n + 1)).filter φ).length = ((l.take n).filter φ).length + 1) ∧ (φ q = false → ((l.take (n + 1)).filter φ).length = ((l.take n).filter φ).length) := by
  obtain ⟨hn, e⟩ := List.getElem?_eq_some_iff.mp h
  have t1 : l.take (n + 1) = l.take n ++ [q] := by rw [List.take_succ, h]; rfl
  have t2 : l = l.take n ++ (q :: l.drop (n + 1)) := by
    conv => lhs; rw [← List.take_append_drop n l]
    rw [List.drop_eq_getElem_cons hn, e]
  refine ⟨fun p => ⟨?_, ?_⟩, fun p => ?_⟩
  · have f2 : l.filter φ = (l.take n).filter φ ++ (q :: (l.drop (n + 1)).filter φ) := by
      conv => lhs; rw [t2]
      rw [List.filter_append, List.filter_cons, if_pos p]
    rw [f2, List.getElem?_append_right (Nat.le_refl _), Nat.sub_self]
    rfl
  · rw [t1, List.filter_append, List.length_append, List.filter_cons, if_pos p]
    rfl
  · rw [t1, List.filter_append, List.length_append, List.filter_cons, if_neg (by rw [p]; decide)]
    rfl
abbrev sPf (c : zK3) (S : zS) (b : Int32) (q : Nat × Nat) : Bool := decide (sFt c S b (Int32.ofNat q.1) ∧ sFt c S b (Int32.ofNat q.2))
def sPL (c : zK3) (S : zS) (b : Int32) : List (Nat × Nat) := aPr.filter (sPf c S b)
abbrev sDf (c : zK3) (S : zS) (lw : Option ((Int → Int) × Int)) (b : Int32) (p : Nat) (q : Nat × Nat) : Prop := ¬ (sShow c S lw (Int32.ofNat p) b (Int32.ofNat q.1)).toInt = (sShow c S lw (Int32.ofNat p) b (Int32.ofNat q.2)).toInt
abbrev sBi (set p : Nat) : Prop := (cBt (Int32.ofNat set) (Int32.ofNat p)).toInt = 1
abbrev sTl (c : zK3) (S : zS) (lw : Option ((Int → Int) × Int)) (np : Nat) (b : Int32) (set : Nat) (q : Nat × Nat) : Prop := ∃ p : Nat, p < np ∧ sBi set p ∧ sKi c p ∧ sDf c S lw b p q
abbrev aAp (c : zK3) (S : zS) (lw : Option ((Int → Int) × Int)) (np : Nat) (b : Int32) (set : Nat) : Bool := decide (∀ q ∈ sPL c S b, sTl c S lw np b set q)
abbrev sRe (c : zK3) (np : Nat) (set : Nat) : Bool := decide (∀ p : Nat, p < np → sBi set p → sKi c p)
def sUs (x s : Int32) : Int32 := (x.toUInt32 >>> (s.toUInt32 &&& Int32.toUInt32 31)).toInt32
def sB1 (i : Int32) : Int32 := i - (sUs i 1 &&& 1431655765)
def sB2 (i : Int32) : Int32 := (i &&& 858993459) + (sUs i 2 &&& 858993459)
def sB3 (i : Int32) : Int32 := (i + sUs i 4) &&& 252645135
def sB4 (i : Int32) : Int32 := i + sUs i 8
def sB5 (i : Int32) : Int32 := i + sUs i 16
def sBc (i : Int32) : Int32 := sB5 (sB4 (sB3 (sB2 (sB1 i)))) &&& 63
def sBn (k : Nat) : Int := (sBc (Int32.ofNat k)).toInt
theorem zBi_a : ∀ t s : Fin 32, (¬ (Int32.ofNat t.val &&& Int32.ofNat s.val).toInt = 0 ↔ ∃ p : Fin 5, sBi t.val p.val ∧ sBi s.val p.val) := by decide +kernel
theorem zBi_o : ∀ t : Fin 32, ∀ p : Fin 5, (0 ≤ (Int32.ofNat t.val ||| (1 <<< (Int32.ofNat p.val &&& 31))).toInt ∧ (Int32.ofNat t.val ||| (1 <<< (Int32.ofNat p.val &&& 31))).toInt ≤ 31) ∧ ∀ q : Fin 5, ((cBt (Int32.ofNat t.val ||| (1 <<< (Int32.ofNat p.val &&& 31))) (Int32.ofNat q.val)).toInt = 1 ↔ (sBi t.val q.val ∨ q = p)) := by decide +kernel
theorem zBi_r : ∀ s : Fin 32, ∀ p : Fin 5, sBi s.val p.val → 2 ^ p.val ≤ s.val ∧ (∀ q : Fin 5, (sBi (s.val - 2 ^ p.val) q.val ↔ (sBi s.val q.val ∧ ¬ q = p))) ∧ sBn (s.val - 2 ^ p.val) < sBn s.val := by decide +kernel
def zBst (P : Nat → Bool) (bc : Nat → Int) : Nat → Int
  | 0 => -1
  | k + 1 => if (zBst P bc k = -1 ∨ bc k < bc (zBst P bc k).toNat) ∧ P k = true then (k : Int) else zBst P bc k
theorem zBst_b {P : Nat → Bool} {bc : Nat → Int} : ∀ k : Nat, -1 ≤ zBst P bc k ∧ zBst P bc k < (k : Int) := by
  intro k
  induction k with
  | zero => exact ⟨Int.le_refl _, by show (-1 : Int) < ((0 : Nat) : Int); decide⟩
  | succ k ih =>
    unfold zBst
    by_cases q : (zBst P bc k = -1 ∨ bc k < bc (zBst P bc k).toNat) ∧ P k = true
    · rw [if_pos q]
      omega
    · rw [if_neg q]
      omega
theorem zBst_none {P : Nat → Bool} {bc : Nat → Int} (h : ∀ k : Nat, P k = false) : ∀ k : Nat, zBst P bc k = -1 := by
  intro k
  induction k with
  | zero => rfl
  | succ k ih =>
    unfold zBst
    rw [if_neg (fun q => by rw [h k] at q; exact absurd q.2 (by decide))]
    exact ih
theorem zBst_eq {P R : Nat → Bool} {bc : Nat → Int} {n : Nat} (H : ∀ s : Nat, s < n → P s = true → R s = false → ∃ t : Nat, t < s ∧ P t = true ∧ R t = true ∧ bc t < bc s) : ∀ k : Nat, k ≤ n → zBst P bc k = zBst (fun s => R s && P s) bc k ∧ ∀ t : Nat, t < k → R t = true → P t = true → 0 ≤ zBst (fun s => R s && P s) bc k ∧ bc (zBst (fun s => R s && P s) bc k).toNat ≤ bc t := by
  intro k
  induction k with
  | zero => exact fun _ => ⟨rfl, fun t ht => absurd ht (by omega)⟩
  | succ k ih =>
    intro hk
    obtain ⟨e, m⟩ := ih (by omega)
    have b := zBst_b (P := fun s => R s && P s) (bc := bc) k
    obtain ⟨B, hB⟩ : ∃ B : Int, B = zBst (fun s => R s && P s) bc k := ⟨_, rfl⟩
    have u1 : zBst P bc (k + 1) = if (B = -1 ∨ bc k < bc B.toNat) ∧ P k = true then (k : Int) else B := by
      rw [hB, ← e]
      rfl
    have u2 : zBst (fun s => R s && P s) bc (k + 1) = if (B = -1 ∨ bc k < bc B.toNat) ∧ (R k && P k) = true then (k : Int) else B := by
      rw [hB]
      rfl
    rw [← hB] at m b
    rw [u1, u2]
    cases hP : P k with
    | false =>
      rw [Bool.and_false, if_neg (fun q => absurd q.2 (by decide))]
      refine ⟨rfl, fun t ht hr hp => ?_⟩
      by_cases q : t = k
      · rw [q, hP] at hp
        exact absurd hp (by decide)
      · exact m t (by omega) hr hp
    | true =>
      cases hR : R k with
      | false =>
        obtain ⟨t, t1, t2, t3, t4⟩ := H k (by omega) hP hR
        have y := m t t1 t3 t2
        rw [Bool.false_and, if_neg (fun q => by rcases q.1 with z | z <;> omega), if_neg (fun q => absurd q.2 (by decide))]
        refine ⟨rfl, fun t ht hr hp => ?_⟩
        by_cases q : t = k
        · rw [q, hR] at hr
          exact absurd hr (by decide)
        · exact m t (by omega) hr hp
      | true =>
        rw [Bool.and_true]
        refine ⟨rfl, fun t ht hr hp => ?_⟩
        by_cases c : (B = -1 ∨ bc k < bc B.toNat) ∧ true = true
        · rw [if_pos c]
          have kk : ((k : Nat) : Int).toNat = k := by omega
          rw [kk]
          refine ⟨by omega, ?_⟩
          by_cases q : t = k
          · rw [q]
            exact Int.le_refl _
          · have y := m t (by omega) hr hp
            rcases c.1 with z | z <;> omega
        · rw [if_neg c]
          by_cases q : t = k
          · have c1 : ¬ (B = -1 ∨ bc k < bc B.toNat) := fun z => c ⟨z, rfl⟩
            rw [q]
            exact ⟨by omega, by omega⟩
          · exact m t (by omega) hr hp
theorem sAp_r {c : zK3} {S : zS} {lw : Option ((Int → Int) × Int)} {np : Nat} {b : Int32} (hn : np ≤ 5) : ∀ s : Nat, s < 32 → aAp c S lw np b s = true → sRe c np s = false → ∃ t : Nat, t < s ∧ aAp c S lw np b t = true ∧ sRe c np t = true ∧ sBn t < sBn s := by
  intro s
  induction s using Nat.strongRecOn with
  | _ s ih =>
    intro hs ha hr
    have ha := of_decide_eq_true ha
    have hr := of_decide_eq_false hr
    have hx : ∃ p : Nat, p < np ∧ sBi s p ∧ ¬ sKi c p := by
      by_cases q : ∃ p : Nat, p < np ∧ sBi s p ∧ ¬ sKi c p
      · exact q
      · refine absurd (fun p hp h1 => ?_) hr
        by_cases z : sKi c p
        · exact z
        · exact absurd ⟨p, hp, h1, z⟩ q
    obtain ⟨p, hp, h1, h2⟩ := hx
    obtain ⟨z1, z2, z3⟩ := zBi_r ⟨s, hs⟩ ⟨p, by omega⟩ h1
    dsimp only at z1 z2 z3
    have p2 : 0 < 2 ^ p := Nat.two_pow_pos p
    have t0 : aAp c S lw np b (s - 2 ^ p) = true := decide_eq_true (fun q hq => by
      obtain ⟨p', a1, a2, a3, a4⟩ := ha q hq
      refine ⟨p', a1, (z2 ⟨p', by omega⟩).mpr ⟨a2, fun e => ?_⟩, a3, a4⟩
      have e2 : p' = p := congrArg Fin.val e
      rw [e2] at a3
      exact h2 a3)
    generalize 2 ^ p = w at z1 z3 t0 p2
    cases r0 : sRe c np (s - w) with
    | true => exact ⟨s - w, by omega, t0, r0, z3⟩
    | false =>
      obtain ⟨t, b1, b2, b3, b4⟩ := ih (s - w) (by omega) (by omega) t0 r0
      exact ⟨t, by omega, b2, b3, by omega⟩
def sV_apa (nb : Int) (np : Nat) (c : zK3) (S : zS) (lw : Option ((Int → Int) × Int)) (b : Int32) : Int := if 0 ≤ b.toInt ∧ b.toInt < nb then zBst (fun s => sRe c np s && aAp c S lw np b s) sBn (2 ^ np) else -1
theorem sV_apC {c : zK3} {S : zS} {lw : Option ((Int → Int) × Int)} {np : Nat} {b : Int32} (hn : np ≤ 5) : zBst (fun s => aAp c S lw np b s) sBn (2 ^ np) = zBst (fun s => sRe c np s && aAp c S lw np b s) sBn (2 ^ np) := by
  have h32 : 2 ^ np ≤ 32 := Nat.pow_le_pow_right (by decide) hn
  exact (zBst_eq (P := fun s => aAp c S lw np b s) (R := fun s => sRe c np s) (bc := sBn) (n := 2 ^ np) (fun s hs h1 h2 => sAp_r hn s (by omega) h1 h2) (2 ^ np) (Nat.le_refl _)).1
theorem zPL_d : ∀ l s : Fin 2, ∀ e : Fin 10, ∃ q ∈ aPr, (cBt (zFit (Int32.ofNat l.val) (Int32.ofNat s.val) (Int32.ofNat e.val)) (Int32.ofNat q.1)).toInt = 1 ∧ (cBt (zFit (Int32.ofNat l.val) (Int32.ofNat s.val) (Int32.ofNat e.val)) (Int32.ofNat q.2)).toInt = 1 := by decide +kernel
theorem sPL_ne {c : zK3} {S : zS} {b : Int32} (he : 0 ≤ (c.2.1 (4 * b.toInt.toNat)).toInt ∧ (c.2.1 (4 * b.toInt.toNat)).toInt ≤ 9) : ∃ q : Nat × Nat, q ∈ sPL c S b := by
  have bl := cBt_b (x := S.2.2.1.1) (y := b)
  have bs := cBt_b (x := S.2.2.1.2.1) (y := b)
  obtain ⟨q, q1, q2, q3⟩ := zPL_d ⟨(cBt S.2.2.1.1 b).toInt.toNat, by omega⟩ ⟨(cBt S.2.2.1.2.1 b).toInt.toNat, by omega⟩ ⟨(c.2.1 (4 * b.toInt.toNat)).toInt.toNat, by omega⟩
  dsimp only at q2 q3
  rw [← zk32 (show 0 ≤ (cBt S.2.2.1.1 b).toInt by omega), ← zk32 (show 0 ≤ (cBt S.2.2.1.2.1 b).toInt by omega), ← zk32 he.1] at q2 q3
  exact ⟨q, List.mem_filter.mpr ⟨q1, decide_eq_true ⟨q2, q3⟩⟩⟩
theorem sAp_no {c : zK3} {S : zS} {lw : Option ((Int → Int) × Int)} {np : Nat} {b : Int32} (he : 0 ≤ (c.2.1 (4 * b.toInt.toNat)).toInt ∧ (c.2.1 (4 * b.toInt.toNat)).toInt ≤ 9) (hk : ∀ p : Nat, p < np → ¬ sKi c p) : ∀ s : Nat, aAp c S lw np b s = false := fun s => by
  obtain ⟨q, hq⟩ := sPL_ne (c := c) (S := S) (b := b) he
  refine decide_eq_false (fun z => ?_)
  obtain ⟨p, p1, -, p3, -⟩ := z q hq
  exact hk p p1 p3
def zTn (f g : Int32) : Nat := ztri f.toInt.toNat + (g.toInt.toNat - f.toInt.toNat - 1)
theorem zTn_i {f g : Int32} (h0 : 0 ≤ f.toInt) (h1 : f.toInt < g.toInt) (h2 : g.toInt ≤ 9) : aPr[zTn f g]? = some (f.toInt.toNat, g.toInt.toNat) := aPr_i ⟨f.toInt.toNat, by omega⟩ ⟨g.toInt.toNat, by omega⟩ (by show f.toInt.toNat < g.toInt.toNat; omega)
def sDb (c : zK3) (S : zS) (lw : Option ((Int → Int) × Int)) (b : Int32) (p : Nat) (q : Nat × Nat) : Bool := decide (sDf c S lw b p q)
def aNt (L : List (Nat × Nat)) (D : Nat × Nat → Bool) (T T' : Nat → Int32) (x : Int32) (m : Nat) : Prop := ∀ j : Nat, j < 45 → T' j = if j < m ∧ D (L.getD j (0, 0)) = true then T j ||| x else T j
def zNp (φ : Nat × Nat → Bool) (n : Nat) (k : Int32) : Prop := k.toInt = (((aPr.take n).filter φ).length : Int)
theorem aNt_0 {L : List (Nat × Nat)} {D : Nat × Nat → Bool} {T : Nat → Int32} {x : Int32} : aNt L D T T x 0 := fun j _ => (if_neg (fun z => absurd z.1 (by omega))).symm
theorem zNp_b {φ : Nat × Nat → Bool} {n : Nat} {k : Int32} (h : zNp φ n k) (hn : n ≤ 45) : 0 ≤ k.toInt ∧ k.toInt ≤ (n : Int) := by
  have a := List.length_filter_le φ (aPr.take n)
  have b := List.length_take_le n aPr
  unfold zNp at h
  omega
theorem aNtN {φ D : Nat × Nat → Bool} {T T' : Nat → Int32} {x k : Int32} {n : Nat} {q : Nat × Nat} (h : aNt (aPr.filter φ) D T T' x k.toInt.toNat) (hk : zNp φ n k) (hq : aPr[n]? = some q) (hf : φ q = false) : zNp φ (n + 1) k := by
  have z := (zPk_at (φ := φ) hq).2 hf
  unfold zNp at hk ⊢
  rw [z]
  exact hk
theorem aNtS {φ D : Nat × Nat → Bool} {T T' : Nat → Int32} {x k k' : Int32} {n : Nat} {q : Nat × Nat} (h : aNt (aPr.filter φ) D T T' x k.toInt.toNat) (hk : zNp φ n k) (hq : aPr[n]? = some q) (hf : φ q = true) (hD : D q = false) (e : k'.toInt = k.toInt + 1) : aNt (aPr.filter φ) D T T' x k'.toInt.toNat ∧ zNp φ (n + 1) k' := by
  obtain ⟨z1, z2⟩ := (zPk_at (φ := φ) hq).1 hf
  unfold zNp at hk ⊢
  refine ⟨fun j hj => ?_, by rw [z2]; omega⟩
  rw [h j hj]
  have kk : k.toInt.toNat = ((aPr.take n).filter φ).length := by omega
  by_cases c : j = k.toInt.toNat
  · have g : (aPr.filter φ).getD j (0, 0) = q := by
      rw [List.getD_eq_getElem?_getD, c, kk, z1]
      rfl
    rw [if_neg (fun y => absurd y.1 (by omega)), if_neg (fun y => by rw [g, hD] at y; exact absurd y.2 (by decide))]
  · by_cases d : j < k.toInt.toNat ∧ D ((aPr.filter φ).getD j (0, 0)) = true
    · rw [if_pos d, if_pos ⟨by omega, d.2⟩]
    · rw [if_neg d, if_neg (fun y => d ⟨by omega, y.2⟩)]
theorem aNtY {φ D : Nat × Nat → Bool} {T T' T'' : Nat → Int32} {x u v k k' : Int32} {n : Nat} {q : Nat × Nat} (h : aNt (aPr.filter φ) D T T' x k.toInt.toNat) (hk : zNp φ n k) (hq : aPr[n]? = some q) (hf : φ q = true) (hD : D q = true) (eu : u = T' k.toNatClampNeg) (ev : v = u ||| x) (eT : T'' = upd T' k.toNatClampNeg v) (e : k'.toInt = k.toInt + 1) (h45 : k.toInt < 45) (h0 : 0 ≤ k.toInt) : aNt (aPr.filter φ) D T T'' x k'.toInt.toNat ∧ zNp φ (n + 1) k' := by
  obtain ⟨z1, z2⟩ := (zPk_at (φ := φ) hq).1 hf
  have kn : k.toNatClampNeg = k.toInt.toNat := rfl
  rw [kn] at eu eT
  unfold zNp at hk ⊢
  refine ⟨fun j hj => ?_, by rw [z2]; omega⟩
  have kk : k.toInt.toNat = ((aPr.take n).filter φ).length := by omega
  by_cases c : j = k.toInt.toNat
  · have g : (aPr.filter φ).getD j (0, 0) = q := by
      rw [List.getD_eq_getElem?_getD, c, kk, z1]
      rfl
    have y := h j hj
    rw [if_neg (fun y => absurd y.1 (by omega))] at y
    rw [if_pos ⟨by omega, by rw [g]; exact hD⟩, eT, ← c, pk_us, ev, eu, ← c, y]
  · rw [eT, pk_un c, h j hj]
    by_cases d : j < k.toInt.toNat ∧ D ((aPr.filter φ).getD j (0, 0)) = true
    · rw [if_pos d, if_pos ⟨by omega, d.2⟩]
    · rw [if_neg d, if_neg (fun y => d ⟨by omega, y.2⟩)]
def zFw (c : zK3) (S : zS) (lw : Option ((Int → Int) × Int)) (b : Int32) (T : Nat → Int32) (k : Nat) : Prop := ∀ j : Nat, j < (sPL c S b).length → (0 ≤ (T j).toInt ∧ (T j).toInt ≤ 31) ∧ ∀ p : Nat, p < 5 → ((cBt (T j) (Int32.ofNat p)).toInt = 1 ↔ (p < k ∧ sKi c p ∧ sDf c S lw b p ((sPL c S b).getD j (0, 0))))
def zFp (c : zK3) (S : zS) (b : Int32) (n : Int32) (k : Nat) : Prop := (n.toInt = ((sPL c S b).length : Int) ∧ ∃ p : Nat, p < k ∧ sKi c p) ∨ (n.toInt = 0 ∧ ∀ p : Nat, p < k → ¬ sKi c p)
theorem sPL_45 {c : zK3} {S : zS} {b : Int32} : (sPL c S b).length ≤ 45 := by
  have a := List.length_filter_le (sPf c S b) aPr
  rw [aPr_l] at a
  exact a
theorem zFw_0 {c : zK3} {S : zS} {lw : Option ((Int → Int) × Int)} {b : Int32} {T : Nat → Int32} (h : ∀ j : Nat, j < 45 → T j = 0) : zFw c S lw b T (0 : Int32).toInt.toNat := fun j hj => by
  have l := sPL_45 (c := c) (S := S) (b := b)
  rw [h j (by omega)]
  refine ⟨by decide, fun p hp => ⟨fun z => ?_, fun z => absurd z.1 (by show ¬ p < (0 : Int32).toInt.toNat; rw [show (0 : Int32).toInt.toNat = 0 by decide]; omega)⟩⟩
  have y : ∀ p : Fin 5, ¬ (cBt 0 (Int32.ofNat p.val)).toInt = 1 := by decide
  exact absurd z (y ⟨p, hp⟩)
theorem zFp_0 {c : zK3} {S : zS} {b : Int32} : zFp c S b 0 (0 : Int32).toInt.toNat := Or.inr ⟨by decide, fun p hp => by
  rw [show (0 : Int32).toInt.toNat = 0 by decide] at hp
  omega⟩
theorem zFwN {c : zK3} {S : zS} {lw : Option ((Int → Int) × Int)} {b n i i' : Int32} {T : Nat → Int32} (h : zFw c S lw b T i.toInt.toNat) (hp : zFp c S b n i.toInt.toNat) (h0 : 0 ≤ i.toInt) (hi : i'.toInt = i.toInt + 1) (hk : (c.2.2 (4 * i.toInt.toNat + 3)).toInt = 3) : zFw c S lw b T i'.toInt.toNat ∧ zFp c S b n i'.toInt.toNat := by
  have e : i'.toInt.toNat = i.toInt.toNat + 1 := by omega
  have nk : ¬ sKi c i.toInt.toNat := fun z => z hk
  rw [e]
  refine ⟨fun j hj => ⟨(h j hj).1, fun p hp5 => ((h j hj).2 p hp5).trans ⟨fun z => ⟨by omega, z.2⟩, fun z => ⟨?_, z.2⟩⟩⟩, ?_⟩
  · by_cases q : p = i.toInt.toNat
    · rw [q] at z
      exact absurd z.2.1 nk
    · have := z.1
      omega
  · rcases hp with ⟨a, p, p1, p2⟩ | ⟨a, p2⟩
    · exact Or.inl ⟨a, p, by omega, p2⟩
    · refine Or.inr ⟨a, fun p p1 => ?_⟩
      by_cases q : p = i.toInt.toNat
      · rw [q]
        exact nk
      · exact p2 p (by omega)
theorem zFwY {c : zK3} {S : zS} {lw : Option ((Int → Int) × Int)} {b n i i' : Int32} {T T' : Nat → Int32} (h : zFw c S lw b T i.toInt.toNat) (h0 : 0 ≤ i.toInt) (h4 : i.toInt ≤ 4) (hi : i'.toInt = i.toInt + 1) (hk : ¬ (c.2.2 (4 * i.toInt.toNat + 3)).toInt = 3) (hn : n.toInt = ((sPL c S b).length : Int)) (ht : aNt (sPL c S b) (sDb c S lw b i.toInt.toNat) T T' (1 <<< (i &&& 31)) n.toInt.toNat) : zFw c S lw b T' i'.toInt.toNat ∧ zFp c S b n i'.toInt.toNat := by
  have e : i'.toInt.toNat = i.toInt.toNat + 1 := by omega
  have l := sPL_45 (c := c) (S := S) (b := b)
  rw [e]
  refine ⟨fun j hj => ?_, Or.inl ⟨hn, i.toInt.toNat, by omega, hk⟩⟩
  have t := ht j (by omega)
  obtain ⟨a, a2⟩ := h j hj
  have o := zBi_o ⟨(T j).toInt.toNat, by omega⟩ ⟨i.toInt.toNat, by omega⟩
  dsimp only at o
  rw [← zk32 a.1, ← zk32 h0] at o
  by_cases d : sDb c S lw b i.toInt.toNat ((sPL c S b).getD j (0, 0)) = true
  · rw [if_pos ⟨by omega, d⟩] at t
    rw [t]
    refine ⟨o.1, fun p hp => (o.2 ⟨p, hp⟩).trans ⟨fun z => ?_, fun z => ?_⟩⟩
    · rcases z with z | z
      · have y := (a2 p hp).mp (by unfold sBi at z; dsimp only at z; rw [← zk32 a.1] at z; exact z)
        exact ⟨by omega, y.2⟩
      · have z : p = i.toInt.toNat := congrArg Fin.val z
        rw [z]
        exact ⟨by omega, hk, of_decide_eq_true d⟩
    · by_cases q : p = i.toInt.toNat
      · exact Or.inr (Fin.ext q)
      · have y := (a2 p hp).mpr ⟨by have := z.1; omega, z.2⟩
        refine Or.inl ?_
        unfold sBi
        dsimp only
        rw [← zk32 a.1]
        exact y
  · rw [if_neg (fun z => d z.2)] at t
    rw [t]
    refine ⟨a, fun p hp => (a2 p hp).trans ⟨fun z => ⟨by omega, z.2⟩, fun z => ⟨?_, z.2⟩⟩⟩
    by_cases q : p = i.toInt.toNat
    · rw [q] at z
      exact absurd (decide_eq_true z.2.2) d
    · have := z.1
      omega
theorem zFwE {c : zK3} {S : zS} {lw : Option ((Int → Int) × Int)} {b : Int32} {np s : Nat} {T : Nat → Int32} (h : zFw c S lw b T np) (h5 : np ≤ 5) (hs : s < 32) : (∀ j : Nat, j < (sPL c S b).length → ¬ (T j &&& Int32.ofNat s).toInt = 0) ↔ aAp c S lw np b s = true := by
  have key : ∀ j : Nat, j < (sPL c S b).length → (¬ (T j &&& Int32.ofNat s).toInt = 0 ↔ sTl c S lw np b s ((sPL c S b).getD j (0, 0))) := fun j hj => by
    obtain ⟨a, a2⟩ := h j hj
    have z := zBi_a ⟨(T j).toInt.toNat, by omega⟩ ⟨s, hs⟩
    dsimp only at z
    rw [← zk32 a.1] at z
    refine z.trans ⟨fun ⟨p, p1, p2⟩ => ?_, fun ⟨p, p1, p2, p3, p4⟩ => ⟨⟨p, by omega⟩, ?_, p2⟩⟩
    · have p1 : (cBt (Int32.ofNat (T j).toInt.toNat) (Int32.ofNat p.val)).toInt = 1 := p1
      rw [← zk32 a.1] at p1
      have y := (a2 p.val p.isLt).mp p1
      exact ⟨p.val, y.1, p2, y.2.1, y.2.2⟩
    · show (cBt (Int32.ofNat (T j).toInt.toNat) (Int32.ofNat p)).toInt = 1
      rw [← zk32 a.1]
      exact (a2 p (by omega)).mpr ⟨p1, p3, p4⟩
  constructor
  · intro y
    refine decide_eq_true (fun q hq => ?_)
    obtain ⟨j, hj, e⟩ := List.getElem_of_mem hq
    have z := (key j hj).mp (y j hj)
    rw [List.getD_eq_getElem?_getD, List.getElem?_eq_getElem hj, e] at z
    exact z
  · intro y j hj
    refine (key j hj).mpr ?_
    rw [List.getD_eq_getElem?_getD, List.getElem?_eq_getElem hj]
    exact of_decide_eq_true y _ (List.getElem_mem hj)
theorem sPf_t {c : zK3} {S : zS} {b fs f g : Int32} (hp : fs = zFit (cBt S.2.2.1.1 b) (cBt S.2.2.1.2.1 b) (c.2.1 (4 * b.toInt.toNat))) (h0 : 0 ≤ f.toInt) (g0 : 0 ≤ g.toInt) : sPf c S b (f.toInt.toNat, g.toInt.toNat) = true ↔ ((cBt fs f).toInt = 1 ∧ (cBt fs g).toInt = 1) := by
  have e : (sFt c S b (Int32.ofNat f.toInt.toNat) ∧ sFt c S b (Int32.ofNat g.toInt.toNat)) ↔ ((cBt fs f).toInt = 1 ∧ (cBt fs g).toInt = 1) := by
    rw [← zk32 h0, ← zk32 g0, hp]
  exact ⟨fun z => e.mp (of_decide_eq_true z), fun z => decide_eq_true (e.mpr z)⟩
theorem sDb_t {c : zK3} {S : zS} {lw : Option ((Int → Int) × Int)} {b p f g x y : Int32} (hp : 0 ≤ p.toInt) (h0 : 0 ≤ f.toInt) (g0 : 0 ≤ g.toInt) (ex : x = sShow c S lw p b f) (ey : y = sShow c S lw p b g) : sDb c S lw b p.toInt.toNat (f.toInt.toNat, g.toInt.toNat) = true ↔ ¬ x.toInt = y.toInt := by
  have e : sDf c S lw b p.toInt.toNat (f.toInt.toNat, g.toInt.toNat) ↔ ¬ x.toInt = y.toInt := by
    show ¬ (sShow c S lw (Int32.ofNat p.toInt.toNat) b (Int32.ofNat f.toInt.toNat)).toInt = (sShow c S lw (Int32.ofNat p.toInt.toNat) b (Int32.ofNat g.toInt.toNat)).toInt ↔ _
    rw [← zk32 hp, ← zk32 h0, ← zk32 g0, ← ex, ← ey]
  exact ⟨fun z => e.mp (of_decide_eq_true z), fun z => decide_eq_true (e.mpr z)⟩
theorem zNp45 {φ : Nat × Nat → Bool} {k : Int32} (h : zNp φ 45 k) : k.toInt = ((aPr.filter φ).length : Int) := by
  have e : aPr.take 45 = aPr := rfl
  unfold zNp at h
  rw [e] at h
  exact h
theorem zFp_n {c : zK3} {S : zS} {b n : Int32} {k : Nat} (h : zFp c S b n k) (hn : ¬ n.toInt = 0) : n.toInt = ((sPL c S b).length : Int) := by
  rcases h with ⟨a, _⟩ | ⟨a, _⟩
  · exact a
  · exact absurd a hn
theorem zFp_0n {c : zK3} {S : zS} {lw : Option ((Int → Int) × Int)} {b n : Int32} {np m : Nat} (h : zFp c S b n np) (hn : n.toInt = 0) (he : 0 ≤ (c.2.1 (4 * b.toInt.toNat)).toInt ∧ (c.2.1 (4 * b.toInt.toNat)).toInt ≤ 9) : zBst (fun s => aAp c S lw np b s) sBn m = -1 := by
  rcases h with ⟨a, _⟩ | ⟨_, a⟩
  · obtain ⟨q, hq⟩ := sPL_ne (c := c) (S := S) (b := b) he
    have l := List.length_pos_of_mem hq
    omega
  · exact zBst_none (sAp_no (lw := lw) he a) m
theorem sBn_e {v s : Int32} (e : v = sBc s) (h0 : 0 ≤ s.toInt) : v.toInt = sBn s.toInt.toNat := by
  unfold sBn
  rw [← zk32 h0, e]
theorem zBstY {P : Nat → Bool} {bc : Nat → Int} {best s s' : Int32} (h : best.toInt = zBst P bc s.toInt.toNat) (h0 : 0 ≤ s.toInt) (hs : s'.toInt = s.toInt + 1) (hc : best.toInt = -1 ∨ bc s.toInt.toNat < bc best.toInt.toNat) (hp : P s.toInt.toNat = true) : s.toInt = zBst P bc s'.toInt.toNat := by
  rw [h] at hc
  rw [show s'.toInt.toNat = s.toInt.toNat + 1 by omega]
  unfold zBst
  rw [if_pos ⟨hc, hp⟩]
  omega
theorem zBstN {P : Nat → Bool} {bc : Nat → Int} {best s s' : Int32} (h : best.toInt = zBst P bc s.toInt.toNat) (h0 : 0 ≤ s.toInt) (hs : s'.toInt = s.toInt + 1) (hn : ¬ (best.toInt = -1 ∨ bc s.toInt.toNat < bc best.toInt.toNat) ∨ P s.toInt.toNat = false) : best.toInt = zBst P bc s'.toInt.toNat := by
  rw [h] at hn
  rw [show s'.toInt.toNat = s.toInt.toNat + 1 by omega]
  unfold zBst
  rw [if_neg (fun z => by
    rcases hn with q | q
    · exact q z.1
    · rw [q] at z
      exact absurd z.2 (by decide))]
  exact h
theorem zFwT {c : zK3} {S : zS} {lw : Option ((Int → Int) × Int)} {b s n r : Int32} {np k : Nat} {T : Nat → Int32} (h : zFw c S lw b T k) (hk : k = np) (h5 : np ≤ 5) (hs : 0 ≤ s.toInt ∧ s.toInt < 32) (hn : n.toInt = ((sPL c S b).length : Int)) (F : (r.toInt = 1 ∧ ∀ j : Nat, (j : Int) < n.toInt → ¬ (T j &&& s).toInt = 0) ∨ (r.toInt = 0 ∧ ∃ j : Nat, (j : Int) < n.toInt ∧ (T j &&& s).toInt = 0)) : (r.toInt = 1 ∧ aAp c S lw np b s.toInt.toNat = true) ∨ (r.toInt = 0 ∧ aAp c S lw np b s.toInt.toNat = false) := by
  rw [hk] at h
  have z := zFwE (s := s.toInt.toNat) h h5 (by omega)
  rw [← zk32 hs.1] at z
  rcases F with ⟨a, f⟩ | ⟨a, j, j1, j2⟩
  · exact Or.inl ⟨a, z.mp (fun j hj => f j (by omega))⟩
  · refine Or.inr ⟨a, Bool.eq_false_iff.mpr (fun y => z.mpr y j (by omega) j2)⟩
def pw2 (n : Nat) : Int := ((2 ^ n : Nat) : Int)
theorem pw2_1 {n : Nat} : 1 ≤ pw2 n := by
  have y : 0 < 2 ^ n := Nat.two_pow_pos n
  unfold pw2
  omega
theorem pw2_5 {n : Nat} (h : n ≤ 5) : pw2 n ≤ 32 := by
  unfold pw2
  have y : 2 ^ n ≤ 32 := Nat.pow_le_pow_right (by decide) h
  omega
theorem sTl_c {c : zK3} {S : zS} {lw : Option ((Int → Int) × Int)} {np : Nat} {b : Int32} {set f g : Nat} (h : sTl c S lw np b set (f, g)) : sTl c S lw np b set (g, f) := by
  obtain ⟨p, p1, p2, p3, p4⟩ := h
  exact ⟨p, p1, p2, p3, fun e => p4 e.symm⟩
theorem sBi_e {s p v : Int32} (h0 : 0 ≤ s.toInt) (hp : 0 ≤ p.toInt) (e : v.toInt = (cBt s p).toInt) : v.toInt = 1 ↔ sBi s.toInt.toNat p.toInt.toNat := by
  unfold sBi
  rw [← zk32 h0, ← zk32 hp, e]
theorem sDf_e {c : zK3} {S : zS} {lw : Option ((Int → Int) × Int)} {b p f g x y : Int32} (hp : 0 ≤ p.toInt) (h0 : 0 ≤ f.toInt) (g0 : 0 ≤ g.toInt) (ex : x = sShow c S lw p b f) (ey : y = sShow c S lw p b g) : sDf c S lw b p.toInt.toNat (f.toInt.toNat, g.toInt.toNat) ↔ ¬ x.toInt = y.toInt := by
  show ¬ (sShow c S lw (Int32.ofNat p.toInt.toNat) b (Int32.ofNat f.toInt.toNat)).toInt = (sShow c S lw (Int32.ofNat p.toInt.toNat) b (Int32.ofNat g.toInt.toNat)).toInt ↔ _
  rw [← zk32 hp, ← zk32 h0, ← zk32 g0, ← ex, ← ey]
theorem sAp_i {c : zK3} {S : zS} {lw : Option ((Int → Int) × Int)} {np : Nat} {b : Int32} {set : Nat} (h : ∀ x y : Nat, y < 10 → x < y → sPf c S b (x, y) = true → sTl c S lw np b set (x, y)) : aAp c S lw np b set = true := decide_eq_true (fun q hq => by
  have m := List.mem_filter.mp hq
  have d := aPr_b q m.1
  exact h q.1 q.2 d.2 d.1 m.2)
theorem sAp_x {c : zK3} {S : zS} {lw : Option ((Int → Int) × Int)} {np : Nat} {b : Int32} {set x y : Nat} (hy : y < 10) (hx : x < y) (hf : sPf c S b (x, y) = true) (h : ¬ sTl c S lw np b set (x, y)) : aAp c S lw np b set = false := decide_eq_false (fun z => h (z (x, y) (List.mem_filter.mpr ⟨List.mem_of_getElem? (aPr_i ⟨x, by omega⟩ ⟨y, hy⟩ hx), hf⟩)))
