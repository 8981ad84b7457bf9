def gsN (κ : Nat → Int) (a k best : Int32) : Prop := (best.toInt = -1 ∧ ∀ j : Nat, (j : Int) < k.toInt → zbit a j) ∨ (0 ≤ best.toInt ∧ best.toInt < k.toInt ∧ ¬ zbit a best.toInt.toNat ∧ ∀ j : Nat, (j : Int) < k.toInt → ¬ zbit a j → κ best.toInt.toNat ≤ κ j)
theorem gsN_0 {κ : Nat → Int} {a : Int32} : gsN κ a 0 (-1) := Or.inl ⟨by decide, fun j hj => by
  rw [show (0 : Int32).toInt = 0 from by decide] at hj
  omega⟩
theorem gsN_y {κ : Nat → Int} {a k k' best x : Int32} (h : gsN κ a k best) (e : x.toInt = 1 ↔ zbit a k.toInt.toNat) (hx : x.toInt = 1) (h0 : 0 ≤ k.toInt) (hk : k'.toInt = k.toInt + 1) : gsN κ a k' best := by
  have zk : zbit a k.toInt.toNat := e.mp hx
  rcases h with ⟨h1, h2⟩ | ⟨h1, h2, h3, h4⟩
  · refine Or.inl ⟨h1, fun j hj => ?_⟩
    by_cases c : (j : Int) < k.toInt
    · exact h2 j c
    · rw [show j = k.toInt.toNat by omega]
      exact zk
  · refine Or.inr ⟨h1, by omega, h3, fun j hj hz => ?_⟩
    by_cases c : (j : Int) < k.toInt
    · exact h4 j c hz
    · rw [show j = k.toInt.toNat by omega] at hz
      exact absurd zk hz
theorem gsN_1 {κ : Nat → Int} {a k k' best x : Int32} (h : gsN κ a k best) (e : x.toInt = 1 ↔ zbit a k.toInt.toNat) (hx : ¬ x.toInt = 1) (h0 : 0 ≤ k.toInt) (hk : k'.toInt = k.toInt + 1) (hb : best.toInt = -1) : gsN κ a k' k := by
  have zk : ¬ zbit a k.toInt.toNat := fun z => hx (e.mpr z)
  rcases h with ⟨h1, h2⟩ | ⟨h1, h2, h3, h4⟩
  · refine Or.inr ⟨h0, by omega, zk, fun j hj hz => ?_⟩
    by_cases c : (j : Int) < k.toInt
    · exact absurd (h2 j c) hz
    · rw [show j = k.toInt.toNat by omega]
      exact Int.le_refl _
  · omega
theorem gsN_2 {κ : Nat → Int} {a k k' best x : Int32} (h : gsN κ a k best) (e : x.toInt = 1 ↔ zbit a k.toInt.toNat) (hx : ¬ x.toInt = 1) (h0 : 0 ≤ k.toInt) (hk : k'.toInt = k.toInt + 1) (hb : ¬ best.toInt = -1) (hc : κ k.toInt.toNat < κ best.toInt.toNat) : gsN κ a k' k := by
  have zk : ¬ zbit a k.toInt.toNat := fun z => hx (e.mpr z)
  rcases h with ⟨h1, h2⟩ | ⟨h1, h2, h3, h4⟩
  · exact absurd h1 hb
  · refine Or.inr ⟨h0, by omega, zk, fun j hj hz => ?_⟩
    by_cases c : (j : Int) < k.toInt
    · have := h4 j c hz
      omega
    · rw [show j = k.toInt.toNat by omega]
      exact Int.le_refl _
theorem gsN_3 {κ : Nat → Int} {a k k' best : Int32} (h : gsN κ a k best) (h0 : 0 ≤ k.toInt) (hk : k'.toInt = k.toInt + 1) (hb : ¬ best.toInt = -1) (hc : κ best.toInt.toNat ≤ κ k.toInt.toNat) : gsN κ a k' best := by
  rcases h with ⟨h1, h2⟩ | ⟨h1, h2, h3, h4⟩
  · exact absurd h1 hb
  · refine Or.inr ⟨h1, by omega, h3, fun j hj hz => ?_⟩
    by_cases c : (j : Int) < k.toInt
    · exact h4 j c hz
    · rw [show j = k.toInt.toNat by omega]
      exact hc
theorem keyA_e {fp : Nat → Int32} {np : Int} {c : zK3} {k b x y : Int32} (hP : chP fp np c) (hx : x = fp (4 * k.toInt.toNat + 1)) (hy : y = fp (4 * b.toInt.toNat + 1)) (hk : 0 ≤ k.toInt ∧ k.toInt < np) (hb : 0 ≤ b.toInt ∧ b.toInt < k.toInt) : (x.toInt < y.toInt → keyA c.2.2 k.toInt.toNat < keyA c.2.2 b.toInt.toNat) ∧ (y.toInt ≤ x.toInt → keyA c.2.2 b.toInt.toNat ≤ keyA c.2.2 k.toInt.toNat) := by
  have h5 := hP.2.2.2
  unfold keyA
  rw [← hP.1 (4 * k.toInt.toNat + 1) (by omega), ← hx, ← hP.1 (4 * b.toInt.toNat + 1) (by omega), ← hy]
  constructor
  · intro z
    omega
  · intro z
    omega
def gsF (κ : Nat → Int) (n : Nat) (a r : Int32) : Prop := ∀ i : Nat, i ≤ n → (∀ p : Nat, p < n → (zbit a p ↔ rnk κ n p < i)) → (r.toInt = -1 ∧ i = n) ∨ (0 ≤ r.toInt ∧ r.toInt < (n : Int) ∧ rnk κ n r.toInt.toNat = i)
theorem gsN_e {κ : Nat → Int} {n : Nat} {a k r : Int32} (h : gsN κ a k r) (hi : rnkI κ n) (hk : k.toInt = (n : Int)) : gsF κ n a r := by
  intro i hn hz
  rcases h with ⟨h1, h2⟩ | ⟨h1, h2, h3, h4⟩
  · refine Or.inl ⟨h1, ?_⟩
    by_cases c : i = n
    · exact c
    · obtain ⟨p, hp, e⟩ := rnk_ex n hi i (by omega)
      have z := (hz p hp).mp (h2 p (by omega))
      omega
  · have rn : r.toInt.toNat < n := by omega
    refine Or.inr ⟨h1, by omega, ?_⟩
    have r1 : ¬ rnk κ n r.toInt.toNat < i := fun z => h3 ((hz _ rn).mpr z)
    by_cases c : rnk κ n r.toInt.toNat = i
    · exact c
    · have rl := rnk_lt (κ := κ) rn
      obtain ⟨p, hp, e⟩ := rnk_ex n hi i (by omega)
      have pz : ¬ zbit a p := fun z => by
        have := (hz p hp).mp z
        omega
      have le := h4 p (by omega) pz
      have nl : ¬ κ p < κ r.toInt.toNat := by omega
      have := mt (rnk_iff (κ := κ) (n := n) (p := p) (q := r.toInt.toNat) hp).mp nl
      omega
def gsS (κF κP : Nat → Int) (nb np : Nat) (A H : Nat → Int32) (c : Int) (k : Nat) : Prop := ∃ a : Nat → Nat, (∀ b : Nat, b < nb → a b ≤ np ∧ ∀ p : Nat, p < np → (zbit (A b) p ↔ rnk κF np p < a b)) ∧ (∀ p : Nat, p < np → ((H p).toInt = -1 ∧ ∀ b : Nat, b < nb → a b ≤ rnk κF np p) ∨ ∃ h : Nat, h < nb ∧ (H p).toInt = (h : Int) ∧ a h = rnk κF np p + 1 ∧ ∀ b : Nat, b < nb → rnk κF np p < a b → κP h ≤ κP b) ∧ (∀ b : Nat, b < nb → b < k → ¬ (b : Int) = c → a b = np ∨ ∃ p : Nat, p < np ∧ (H p).toInt = (b : Int)) ∧ (∀ b : Nat, b < nb → k ≤ b → a b = 0) ∧ (0 ≤ c → (∀ p : Nat, p < np → ¬ (H p).toInt = c) ∧ c < (k : Int) ∧ c < (nb : Int))
theorem gsS_0 {κF κP : Nat → Int} {nb np : Nat} {A H : Nat → Int32} (hA : ∀ j : Nat, j < nb → A j = 0) (hH : ∀ j : Nat, j < np → H j = -1) (h5 : np ≤ 5) : gsS κF κP nb np A H (-1) (0 : Int32).toInt.toNat := by
  have n1 : (-1 : Int32).toInt = -1 := by decide
  have z0 : (0 : Int32).toInt.toNat = 0 := by decide
  have y : ∀ p : Fin 5, ¬ zbit 0 p.val := by
    unfold zbit nI
    decide +kernel
  refine ⟨fun _ => 0, fun b hb => ⟨Nat.zero_le _, fun p hp => ?_⟩, fun p hp => Or.inl ⟨by rw [hH p hp]; exact n1, fun b _ => Nat.zero_le _⟩, fun b _ hk => absurd hk (by omega), fun _ _ _ => rfl, fun h => absurd h (by omega)⟩
  rw [hA b hb]
  exact ⟨fun z => absurd z (y ⟨p, by omega⟩), fun z => absurd z (Nat.not_lt_zero _)⟩
theorem gsS_in {κF κP : Nat → Int} {nb np : Nat} {A H : Nat → Int32} {k : Int32} (h : gsS κF κP nb np A H (-1) k.toInt.toNat) (h0 : 0 ≤ k.toInt) (hk : k.toInt < (nb : Int)) : gsS κF κP nb np A H k.toInt (k.toInt.toNat + 1) := by
  obtain ⟨a, h1, h2, h3, h4, h5⟩ := h
  refine ⟨a, h1, h2, fun b hb hl hc => h3 b hb (by omega) (by omega), fun b hb hl => h4 b hb (by omega), fun _ => ⟨fun p hp e => ?_, by omega, hk⟩⟩
  have z := h4 k.toInt.toNat (by omega) (Nat.le_refl _)
  rcases h2 p hp with ⟨e1, _⟩ | ⟨g, g1, g2, g3, g4⟩
  · omega
  · have : g = k.toInt.toNat := by omega
    rw [this] at g3
    omega
theorem gsS_o1 {κF κP : Nat → Int} {nb np : Nat} {A H : Nat → Int32} {c k k' : Int32} (h : gsS κF κP nb np A H c.toInt (k.toInt.toNat + 1)) (hc : c.toInt = -1) (h0 : 0 ≤ k.toInt) (hk : k'.toInt = k.toInt + 1) : gsS κF κP nb np A H (-1) k'.toInt.toNat := by
  rw [hc] at h
  rw [show k'.toInt.toNat = k.toInt.toNat + 1 by omega]
  exact h
theorem gsS_o2 {κF κP : Nat → Int} {nb np : Nat} {A H : Nat → Int32} {c k k' r : Int32} (h : gsS κF κP nb np A H c.toInt (k.toInt.toNat + 1)) (hc : 0 ≤ c.toInt) (F : gsF κF np (A c.toInt.toNat) r) (hr : r.toInt = -1) (h0 : 0 ≤ k.toInt) (hk : k'.toInt = k.toInt + 1) : gsS κF κP nb np A H (-1) k'.toInt.toNat := by
  obtain ⟨a, h1, h2, h3, h4, h5⟩ := h
  have c5 := h5 hc
  have h1c := h1 c.toInt.toNat (by omega)
  have f : a c.toInt.toNat = np := by
    rcases F (a c.toInt.toNat) h1c.1 h1c.2 with ⟨_, e⟩ | ⟨e, _⟩
    · exact e
    · omega
  rw [show k'.toInt.toNat = k.toInt.toNat + 1 by omega]
  refine ⟨a, h1, h2, fun b hb hl _ => ?_, h4, fun q => absurd q (by omega)⟩
  by_cases e : (b : Int) = c.toInt
  · rw [show b = c.toInt.toNat by omega]
    exact Or.inl f
  · exact h3 b hb hl e
theorem gsS_b {κF κP : Nat → Int} {nb np : Nat} {A H : Nat → Int32} {c : Int} {k : Nat} (h : gsS κF κP nb np A H c k) (hc : 0 ≤ c) : c < (nb : Int) := by
  obtain ⟨a, h1, h2, h3, h4, h5⟩ := h
  exact (h5 hc).2.2
theorem gsS_h {κF κP : Nat → Int} {nb np : Nat} {A H : Nat → Int32} {c : Int} {k : Nat} {p d : Int32} (h : gsS κF κP nb np A H c k) (hp : 0 ≤ p.toInt) (hn : p.toInt < (np : Int)) (ed : d = H p.toNatClampNeg) (h0 : 0 ≤ d.toInt) : d.toInt < (nb : Int) := by
  obtain ⟨a, h1, h2, h3, h4, h5⟩ := h
  have pp : p.toNatClampNeg = p.toInt.toNat := rfl
  rw [pp] at ed
  rcases h2 p.toInt.toNat (by omega) with ⟨e, _⟩ | ⟨g, g1, g2, _⟩
  · rw [← ed] at e
    omega
  · rw [← ed] at g2
    omega
theorem zbit_o : ∀ x : Fin 32, ∀ p j : Fin 5, zbit (Int32.ofNat x.val ||| (1 <<< (Int32.ofNat p.val &&& 31))) j.val ↔ (zbit (Int32.ofNat x.val) j.val ∨ j = p) := by
  intro x p j
  revert x p j
  unfold zbit nI
  decide +kernel
theorem zbit_s {A A' : Nat → Int32} {c p x s y : Int32} (hA : 0 ≤ (A c.toInt.toNat).toInt ∧ (A c.toInt.toNat).toInt ≤ 31) (hp : 0 ≤ p.toInt ∧ p.toInt ≤ 4) (ex : x = A c.toNatClampNeg) (es : s = (1 : Int32) <<< (p &&& 31)) (ey : y = x ||| s) (eA : A' = upd A c.toNatClampNeg y) : (∀ j : Nat, j < 5 → (zbit (A' c.toInt.toNat) j ↔ (zbit (A c.toInt.toNat) j ∨ j = p.toInt.toNat))) ∧ ∀ b : Nat, ¬ b = c.toInt.toNat → A' b = A b := by
  have cc : c.toNatClampNeg = c.toInt.toNat := rfl
  rw [cc] at ex eA
  refine ⟨fun j hj => ?_, fun b hb => by rw [eA]; exact pk_un hb⟩
  have z := zbit_o ⟨(A c.toInt.toNat).toInt.toNat, by omega⟩ ⟨p.toInt.toNat, by omega⟩ ⟨j, hj⟩
  dsimp only at z
  rw [← zk32 hA.1, ← zk32 hp.1, ← es, ← ex, ← ey] at z
  rw [eA, pk_us]
  rw [ex] at z
  exact z.trans ⟨fun q => q.imp id (fun e => congrArg Fin.val e), fun q => q.imp id (fun e => Fin.ext e)⟩
theorem gsS_put {κF κP : Nat → Int} {nb np : Nat} {A A' H H' : Nat → Int32} {c p d k : Int32} (hF : rnkI κF np) (h5 : np ≤ 5) (h : gsS κF κP nb np A H c.toInt (k.toInt.toNat + 1)) (hc : 0 ≤ c.toInt) (F : gsF κF np (A c.toInt.toNat) p) (hp : 0 ≤ p.toInt) (hA : (∀ j : Nat, j < 5 → (zbit (A' c.toInt.toNat) j ↔ (zbit (A c.toInt.toNat) j ∨ j = p.toInt.toNat))) ∧ ∀ b : Nat, ¬ b = c.toInt.toNat → A' b = A b) (ed : d = H p.toNatClampNeg) (hd : d.toInt = -1 ∨ (∀ g : Nat, d.toInt = (g : Int) → κP c.toInt.toNat < κP g)) (eH : H' = upd H p.toNatClampNeg c) : gsS κF κP nb np A' H' d.toInt (k.toInt.toNat + 1) := by
  obtain ⟨a, h1, h2, h3, h4, h5c⟩ := h
  obtain ⟨c1, c2, c3⟩ := h5c hc
  have h1c := h1 c.toInt.toNat (by omega)
  obtain ⟨pn, pr⟩ : p.toInt.toNat < np ∧ rnk κF np p.toInt.toNat = a c.toInt.toNat := by
    rcases F (a c.toInt.toNat) h1c.1 h1c.2 with ⟨e, _⟩ | ⟨e1, e2, e3⟩
    · omega
    · exact ⟨by omega, e3⟩
  have pp : p.toNatClampNeg = p.toInt.toNat := rfl
  rw [pp] at ed eH
  have Hp : H' p.toInt.toNat = c := by rw [eH]; exact pk_us
  have Hn : ∀ q : Nat, ¬ q = p.toInt.toNat → H' q = H q := fun q hq => by rw [eH]; exact pk_un hq
  have rp : rnk κF np p.toInt.toNat < np := rnk_lt pn
  have rne : ∀ q : Nat, q < np → ¬ q = p.toInt.toNat → ¬ rnk κF np q = a c.toInt.toNat := fun q hq hn e => hn (rnk_inj hF hq pn (e.trans pr.symm))
  obtain ⟨a', ha1, ha2⟩ : ∃ a' : Nat → Nat, a' c.toInt.toNat = a c.toInt.toNat + 1 ∧ ∀ b : Nat, ¬ b = c.toInt.toNat → a' b = a b := ⟨fun b => if b = c.toInt.toNat then a c.toInt.toNat + 1 else a b, if_pos rfl, fun b hb => if_neg hb⟩
  -- who was there
  have hdd : d.toInt = -1 ∨ ∃ g : Nat, g < nb ∧ d.toInt = (g : Int) ∧ a g = rnk κF np p.toInt.toNat + 1 ∧ ¬ g = c.toInt.toNat ∧ κP c.toInt.toNat < κP g ∧ ∀ b : Nat, b < nb → rnk κF np p.toInt.toNat < a b → κP g ≤ κP b := by
    rcases h2 p.toInt.toNat pn with ⟨e1, _⟩ | ⟨g, g1, g2, g3, g4⟩
    · rw [← ed] at e1
      exact Or.inl e1
    · have gc : ¬ g = c.toInt.toNat := fun e => c1 p.toInt.toNat pn (by omega)
      rw [← ed] at g2
      rcases hd with e | e
      · exact Or.inl e
      · exact Or.inr ⟨g, g1, g2, g3, gc, e g g2, g4⟩
  refine ⟨a', fun b hb => ?_, fun q hq => ?_, fun b hb hl hn => ?_, fun b hb hl => ?_, fun hd0 => ?_⟩
  · by_cases e : b = c.toInt.toNat
    · rw [e, ha1]
      refine ⟨by omega, fun q hq => ((hA.1 q (by omega)).trans ?_)⟩
      have z := h1c.2 q hq
      constructor
      · intro y
        rcases y with y | y
        · have := z.mp y
          omega
        · rw [y, pr]
          omega
      · intro y
        by_cases w : q = p.toInt.toNat
        · exact Or.inr w
        · have := rne q hq w
          exact Or.inl (z.mpr (by omega))
    · rw [ha2 b e, hA.2 b e]
      exact h1 b hb
  · by_cases e : q = p.toInt.toNat
    · rw [e, Hp]
      refine Or.inr ⟨c.toInt.toNat, by omega, by omega, by rw [ha1, pr], fun b hb hr => ?_⟩
      by_cases w : b = c.toInt.toNat
      · rw [w]
        exact Int.le_refl _
      · rw [ha2 b w] at hr
        rcases h2 p.toInt.toNat pn with ⟨_, e2⟩ | ⟨g, g1, g2, g3, g4⟩
        · have := e2 b hb
          omega
        · have y := g4 b hb hr
          rcases hd with z | z
          · rw [ed] at z
            omega
          · have := z g (by rw [ed]; exact g2)
            omega
    · rw [Hn q e]
      have rq := rne q hq e
      rcases h2 q hq with ⟨e1, e2⟩ | ⟨g, g1, g2, g3, g4⟩
      · refine Or.inl ⟨e1, fun b hb => ?_⟩
        by_cases w : b = c.toInt.toNat
        · have := e2 b hb
          rw [w, ha1]
          rw [w] at this
          omega
        · rw [ha2 b w]
          exact e2 b hb
      · have gc : ¬ g = c.toInt.toNat := fun y => c1 q hq (by omega)
        refine Or.inr ⟨g, g1, g2, by rw [ha2 g gc]; exact g3, fun b hb hr => ?_⟩
        by_cases w : b = c.toInt.toNat
        · rw [w, ha1] at hr
          exact g4 b hb (by rw [w]; omega)
        · rw [ha2 b w] at hr
          exact g4 b hb hr
  · by_cases w : b = c.toInt.toNat
    · exact Or.inr ⟨p.toInt.toNat, pn, by rw [Hp]; omega⟩
    · rcases h3 b hb hl (by omega) with e | ⟨q, q1, q2⟩
      · exact Or.inl ((ha2 b w).trans e)
      · have qp : ¬ q = p.toInt.toNat := fun y => by
          rw [y, ← ed] at q2
          omega
        exact Or.inr ⟨q, q1, by rw [Hn q qp]; exact q2⟩
  · have w : ¬ b = c.toInt.toNat := by omega
    rw [ha2 b w]
    exact h4 b hb hl
  · rcases hdd with e | ⟨g, g1, g2, g3, g4, g5, g6⟩
    · omega
    · refine ⟨fun q hq e => ?_, ?_, by omega⟩
      · by_cases w : q = p.toInt.toNat
        · rw [w, Hp] at e
          omega
        · rw [Hn q w] at e
          rcases h2 q hq with ⟨e1, _⟩ | ⟨x, x1, x2, x3, x4⟩
          · omega
          · have xg : x = g := by omega
            rw [xg] at x3
            exact rne q hq w (by omega)
      · by_cases w : g < k.toInt.toNat + 1
        · omega
        · have := h4 g g1 (by omega)
          omega
theorem gsS_pass {κF κP : Nat → Int} {nb np : Nat} {A A' H : Nat → Int32} {c p d k : Int32} (hF : rnkI κF np) (h5 : np ≤ 5) (h : gsS κF κP nb np A H c.toInt (k.toInt.toNat + 1)) (hc : 0 ≤ c.toInt) (F : gsF κF np (A c.toInt.toNat) p) (hp : 0 ≤ p.toInt) (hA : (∀ j : Nat, j < 5 → (zbit (A' c.toInt.toNat) j ↔ (zbit (A c.toInt.toNat) j ∨ j = p.toInt.toNat))) ∧ ∀ b : Nat, ¬ b = c.toInt.toNat → A' b = A b) (ed : d = H p.toNatClampNeg) (hd : 0 ≤ d.toInt) (hk : κP d.toInt.toNat ≤ κP c.toInt.toNat) : gsS κF κP nb np A' H c.toInt (k.toInt.toNat + 1) := by
  obtain ⟨a, h1, h2, h3, h4, h5c⟩ := h
  obtain ⟨c1, c2, c3⟩ := h5c hc
  have h1c := h1 c.toInt.toNat (by omega)
  obtain ⟨pn, pr⟩ : p.toInt.toNat < np ∧ rnk κF np p.toInt.toNat = a c.toInt.toNat := by
    rcases F (a c.toInt.toNat) h1c.1 h1c.2 with ⟨e, _⟩ | ⟨e1, e2, e3⟩
    · omega
    · exact ⟨by omega, e3⟩
  have pp : p.toNatClampNeg = p.toInt.toNat := rfl
  rw [pp] at ed
  have rp : rnk κF np p.toInt.toNat < np := rnk_lt pn
  have rne : ∀ q : Nat, q < np → ¬ q = p.toInt.toNat → ¬ rnk κF np q = a c.toInt.toNat := fun q hq hn e => hn (rnk_inj hF hq pn (e.trans pr.symm))
  obtain ⟨a', ha1, ha2⟩ : ∃ a' : Nat → Nat, a' c.toInt.toNat = a c.toInt.toNat + 1 ∧ ∀ b : Nat, ¬ b = c.toInt.toNat → a' b = a b := ⟨fun b => if b = c.toInt.toNat then a c.toInt.toNat + 1 else a b, if_pos rfl, fun b hb => if_neg hb⟩
  refine ⟨a', fun b hb => ?_, fun q hq => ?_, fun b hb hl hn => ?_, fun b hb hl => ?_, fun _ => ⟨c1, c2, c3⟩⟩
  · by_cases e : b = c.toInt.toNat
    · rw [e, ha1]
      refine ⟨by omega, fun q hq => ((hA.1 q (by omega)).trans ?_)⟩
      have z := h1c.2 q hq
      constructor
      · intro y
        rcases y with y | y
        · have := z.mp y
          omega
        · rw [y, pr]
          omega
      · intro y
        by_cases w : q = p.toInt.toNat
        · exact Or.inr w
        · have := rne q hq w
          exact Or.inl (z.mpr (by omega))
    · rw [ha2 b e, hA.2 b e]
      exact h1 b hb
  · rcases h2 q hq with ⟨e1, e2⟩ | ⟨g, g1, g2, g3, g4⟩
    · by_cases e : q = p.toInt.toNat
      · rw [e, ← ed] at e1
        omega
      · have rq := rne q hq e
        refine Or.inl ⟨e1, fun b hb => ?_⟩
        by_cases w : b = c.toInt.toNat
        · have := e2 b hb
          rw [w, ha1]
          rw [w] at this
          omega
        · rw [ha2 b w]
          exact e2 b hb
    · have gc : ¬ g = c.toInt.toNat := fun y => c1 q hq (by omega)
      refine Or.inr ⟨g, g1, g2, by rw [ha2 g gc]; exact g3, fun b hb hr => ?_⟩
      by_cases w : b = c.toInt.toNat
      · by_cases e : q = p.toInt.toNat
        · rw [e, ← ed] at g2
          rw [w, show g = d.toInt.toNat by omega]
          exact hk
        · have rq := rne q hq e
          rw [w, ha1] at hr
          exact g4 b hb (by rw [w]; omega)
      · rw [ha2 b w] at hr
        exact g4 b hb hr
  · rcases h3 b hb hl hn with e | e
    · exact Or.inl ((ha2 b (by omega)).trans e)
    · exact Or.inr e
  · rw [ha2 b (by omega)]
    exact h4 b hb hl
theorem gsS_e {κF κP : Nat → Int} {nb np : Nat} {A H : Nat → Int32} {k : Int32} (hF : rnkI κF np) (hP : rnkI κP nb) (h : gsS κF κP nb np A H (-1) k.toInt.toNat) (hk : k.toInt = (nb : Int)) : ∀ b p : Nat, b < nb → p < np → ((H p).toInt = (b : Int) ↔ rnk κF np p = rnk κP nb b) := by
  obtain ⟨a, h1, h2, h3, h4, h5⟩ := h
  have kn : k.toInt.toNat = nb := by omega
  rw [kn] at h3
  have own : ∀ p h : Nat, p < np → (H p).toInt = (h : Int) → a h = rnk κF np p + 1 := fun p h hp e => by
    rcases h2 p hp with ⟨e1, _⟩ | ⟨g, g1, g2, g3, g4⟩
    · omega
    · rw [show h = g by omega]
      exact g3
  have claim : ∀ r : Nat, r < np → r < nb → ∀ p b : Nat, p < np → b < nb → rnk κF np p = r → rnk κP nb b = r → (H p).toInt = (b : Int) := by
    intro r
    induction r using Nat.strongRecOn with
    | _ r ih =>
      intro rn rb p b hp hb ep eb
      have ab : rnk κF np p < a b := by
        rcases h3 b hb hb (by omega) with e | ⟨q, q1, q2⟩
        · omega
        · have aq := own q b q1 q2
          by_cases w : rnk κF np q < r
          · exfalso
            obtain ⟨b0, y1, y2⟩ := rnk_ex nb hP (rnk κF np q) (by omega)
            have y3 := ih (rnk κF np q) w (by omega) (by omega) q b0 q1 y1 rfl y2
            have : b0 = b := by omega
            rw [this] at y2
            omega
          · omega
      rcases h2 p hp with ⟨_, e2⟩ | ⟨g, g1, g2, g3, g4⟩
      · have := e2 b hb
        omega
      · have le := g4 b hb ab
        by_cases w : g = b
        · rw [← w]
          exact g2
        · exfalso
          have ne : ¬ κP g = κP b := fun y => w (hP g b g1 hb y)
          have lt : rnk κP nb g < rnk κP nb b := rnk_mono g1 (by omega)
          obtain ⟨p0, y1, y2⟩ := rnk_ex np hF (rnk κP nb g) (by omega)
          have y3 := ih (rnk κP nb g) (by omega) (by omega) (by omega) p0 g y1 g1 y2 rfl
          have y4 := own p0 g y1 y3
          omega
  intro b p hb hp
  have rb := rnk_lt (κ := κP) hb
  have rp := rnk_lt (κ := κF) hp
  constructor
  · intro e
    have ae := own p b hp e
    by_cases w : rnk κF np p < nb
    · obtain ⟨b0, y1, y2⟩ := rnk_ex nb hP (rnk κF np p) w
      have y3 := claim (rnk κF np p) rp w p b0 hp y1 rfl y2
      have : b0 = b := by omega
      rw [this] at y2
      exact y2.symm
    · exfalso
      obtain ⟨p0, y1, y2⟩ := rnk_ex np hF (rnk κP nb b) (by omega)
      have y3 := claim (rnk κP nb b) (by omega) rb p0 b y1 hb y2 rfl
      have y4 := own p0 b y1 y3
      omega
  · intro e
    exact claim (rnk κF np p) rp (by omega) p b hp hb rfl e.symm
def gsM (κ : Nat → Int) (n r : Nat) (m k : Int32) : Prop := (m.toInt = -1 ∧ ∀ j : Nat, (j : Int) < k.toInt → ¬ rnk κ n j = r) ∨ (0 ≤ m.toInt ∧ m.toInt < k.toInt ∧ rnk κ n m.toInt.toNat = r)
theorem gsM_0 {κ : Nat → Int} {n r : Nat} : gsM κ n r (-1) 0 := Or.inl ⟨by decide, fun j hj => by
  rw [show (0 : Int32).toInt = 0 from by decide] at hj
  omega⟩
theorem gsM_y {κ : Nat → Int} {n r : Nat} {k k' : Int32} (h0 : 0 ≤ k.toInt) (hk : k'.toInt = k.toInt + 1) (e : rnk κ n k.toInt.toNat = r) : gsM κ n r k k' := Or.inr ⟨h0, by omega, e⟩
theorem gsM_n {κ : Nat → Int} {n r : Nat} {m k k' : Int32} (h : gsM κ n r m k) (h0 : 0 ≤ k.toInt) (hk : k'.toInt = k.toInt + 1) (e : ¬ rnk κ n k.toInt.toNat = r) : gsM κ n r m k' := by
  rcases h with ⟨h1, h2⟩ | ⟨h1, h2, h3⟩
  · refine Or.inl ⟨h1, fun j hj => ?_⟩
    by_cases c : (j : Int) < k.toInt
    · exact h2 j c
    · rw [show j = k.toInt.toNat by omega]
      exact e
  · exact Or.inr ⟨h1, by omega, h3⟩
theorem gsM_e {κ : Nat → Int} {n r : Nat} {m k : Int32} (h : gsM κ n r m k) (hi : rnkI κ n) (hk : k.toInt = (n : Int)) : m.toInt = mtF κ n r n := by
  rcases h with ⟨h1, h2⟩ | ⟨h1, h2, h3⟩
  · rw [mtF_n n (fun j hj => h2 j (by omega))]
    exact h1
  · rw [mtF_y (p := m.toInt.toNat) hi (by omega) h3 n (by omega) (Nat.le_refl _)]
    omega
