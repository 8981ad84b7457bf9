def rnkC (κ : Nat → Int) (x : Int) : Nat → Nat
  | 0 => 0
  | k + 1 => if κ k < x then rnkC κ x k + 1 else rnkC κ x k
theorem rnkC_y {κ : Nat → Int} {x : Int} {k : Nat} (h : κ k < x) : rnkC κ x (k + 1) = rnkC κ x k + 1 := if_pos h
theorem rnkC_n {κ : Nat → Int} {x : Int} {k : Nat} (h : ¬ κ k < x) : rnkC κ x (k + 1) = rnkC κ x k := if_neg h
theorem rnkC_c {κ κ' : Nat → Int} {x : Int} : ∀ n : Nat, (∀ j : Nat, j < n → κ j = κ' j) → rnkC κ x n = rnkC κ' x n := by
  intro n
  induction n with
  | zero => intro _; rfl
  | succ n ih =>
    intro h
    have e := ih (fun j hj => h j (by omega))
    have e2 := h n (by omega)
    unfold rnkC
    rw [e, e2]
theorem rnkC_le {κ : Nat → Int} {x : Int} : ∀ n : Nat, rnkC κ x n ≤ n := by
  intro n
  induction n with
  | zero => exact Nat.le_refl _
  | succ n ih =>
    by_cases q : κ n < x
    · rw [rnkC_y q]
      omega
    · rw [rnkC_n q]
      omega
theorem rnkC_lt {κ : Nat → Int} {x : Int} {j : Nat} (hj : ¬ κ j < x) : ∀ n : Nat, j < n → rnkC κ x n < n := by
  intro n
  induction n with
  | zero => intro h; exact absurd h (by omega)
  | succ n ih =>
    intro h
    by_cases e : j = n
    · rw [e] at hj
      rw [rnkC_n hj]
      have z := rnkC_le (κ := κ) (x := x) n
      omega
    · have z := ih (by omega)
      by_cases q : κ n < x
      · rw [rnkC_y q]
        omega
      · rw [rnkC_n q]
        omega
theorem rnkC_mono {κ : Nat → Int} {x y : Int} (h : x ≤ y) : ∀ n : Nat, rnkC κ x n ≤ rnkC κ y n := by
  intro n
  induction n with
  | zero => exact Nat.le_refl _
  | succ n ih =>
    by_cases q : κ n < x
    · rw [rnkC_y q, rnkC_y (show κ n < y by omega)]
      omega
    · rw [rnkC_n q]
      by_cases p : κ n < y
      · rw [rnkC_y p]
        omega
      · rw [rnkC_n p]
        exact ih
theorem rnkC_smono {κ : Nat → Int} {x y : Int} {j : Nat} (h1 : x ≤ κ j) (h2 : κ j < y) : ∀ n : Nat, j < n → rnkC κ x n < rnkC κ y n := by
  intro n
  induction n with
  | zero => intro h; exact absurd h (by omega)
  | succ n ih =>
    intro h
    by_cases e : j = n
    · rw [e] at h1 h2
      have z := rnkC_mono (κ := κ) (x := x) (y := y) (by omega) n
      rw [rnkC_n (show ¬ κ n < x by omega), rnkC_y h2]
      omega
    · have z := ih (by omega)
      by_cases q : κ n < x
      · rw [rnkC_y q, rnkC_y (show κ n < y by omega)]
        omega
      · rw [rnkC_n q]
        by_cases p : κ n < y
        · rw [rnkC_y p]
          omega
        · rw [rnkC_n p]
          exact z
def rnkI (κ : Nat → Int) (n : Nat) : Prop := ∀ i j : Nat, i < n → j < n → κ i = κ j → i = j
abbrev rnk (κ : Nat → Int) (n p : Nat) : Nat := rnkC κ (κ p) n
theorem rnkI_le {κ : Nat → Int} {m n : Nat} (h : rnkI κ n) (hm : m ≤ n) : rnkI κ m := fun i j a b e => h i j (by omega) (by omega) e
theorem rnk_lt {κ : Nat → Int} {n p : Nat} (hp : p < n) : rnk κ n p < n := rnkC_lt (Int.lt_irrefl (κ p)) n hp
theorem rnk_mono {κ : Nat → Int} {n p q : Nat} (hp : p < n) (h : κ p < κ q) : rnk κ n p < rnk κ n q := rnkC_smono (j := p) (Int.le_refl _) h n hp
theorem rnk_iff {κ : Nat → Int} {n p q : Nat} (hp : p < n) : rnk κ n p < rnk κ n q ↔ κ p < κ q := by
  constructor
  · intro h
    by_cases c : κ p < κ q
    · exact c
    · have z : rnk κ n q ≤ rnk κ n p := rnkC_mono (κ := κ) (x := κ q) (y := κ p) (by omega) n
      omega
  · exact fun h => rnk_mono hp h
theorem rnk_inj {κ : Nat → Int} {n p q : Nat} (hi : rnkI κ n) (hp : p < n) (hq : q < n) (e : rnk κ n p = rnk κ n q) : p = q := by
  by_cases c : κ p < κ q
  · have z := rnk_mono (n := n) hp c
    omega
  · by_cases d : κ q < κ p
    · have z := rnk_mono (n := n) hq d
      omega
    · exact hi p q hp hq (by omega)
theorem rnk_ex {κ : Nat → Int} : ∀ n : Nat, rnkI κ n → ∀ r : Nat, r < n → ∃ p : Nat, p < n ∧ rnk κ n p = r := by
  intro n
  induction n with
  | zero => intro _ r h; exact absurd h (by omega)
  | succ n ih =>
    intro hi r hr
    have hi' : rnkI κ n := rnkI_le hi (by omega)
    have ml := rnkC_le (κ := κ) (x := κ n) n
    obtain ⟨m, hm⟩ : ∃ m : Nat, m = rnkC κ (κ n) n := ⟨_, rfl⟩
    rw [← hm] at ml
    by_cases c1 : r < m
    · obtain ⟨p, hp, e⟩ := ih hi' r (by omega)
      have e : rnkC κ (κ p) n = r := e
      have q : ¬ κ n < κ p := fun q => by
        have z := rnkC_mono (κ := κ) (x := κ n) (y := κ p) (by omega) n
        omega
      exact ⟨p, by omega, (rnkC_n q).trans e⟩
    · by_cases c2 : r = m
      · exact ⟨n, by omega, (rnkC_n (Int.lt_irrefl (κ n))).trans (by omega)⟩
      · obtain ⟨p, hp, e⟩ := ih hi' (r - 1) (by omega)
        have e : rnkC κ (κ p) n = r - 1 := e
        have q : κ n < κ p := by
          by_cases d : κ n < κ p
          · exact d
          · have ne : ¬ κ p = κ n := fun y => by
              have w := hi p n (by omega) (by omega) y
              omega
            have z := rnkC_smono (κ := κ) (x := κ p) (y := κ n) (j := p) (Int.le_refl _) (by omega) n hp
            omega
        exact ⟨p, by omega, (rnkC_y q).trans (by omega)⟩
def keyA (f : Nat → Int32) (p : Nat) : Int := 8 * (f (4 * p + 1)).toInt + (p : Int)
def keyP (Y : Nat → Int32) (b : Nat) : Int := (b : Int) - 8 * (Y b).toInt
theorem keyA_i {f : Nat → Int32} {n : Nat} (h : n ≤ 8) : rnkI (keyA f) n := fun i j hi hj e => by
  unfold keyA at e
  omega
theorem keyP_i {Y : Nat → Int32} {n : Nat} (h : n ≤ 8) : rnkI (keyP Y) n := fun i j hi hj e => by
  unfold keyP at e
  omega
theorem rnkY {κ : Nat → Int} {x : Int} {a a' i i' : Int32} (h : a.toInt = (rnkC κ x i.toInt.toNat : Int)) (h0 : 0 ≤ i.toInt) (hi : i'.toInt = i.toInt + 1) (hc : κ i.toInt.toNat < x) (e : a'.toInt = a.toInt + 1) : a'.toInt = (rnkC κ x i'.toInt.toNat : Int) := by
  rw [show i'.toInt.toNat = i.toInt.toNat + 1 by omega, rnkC_y hc]
  omega
theorem rnkN {κ : Nat → Int} {x : Int} {a i i' : Int32} (h : a.toInt = (rnkC κ x i.toInt.toNat : Int)) (h0 : 0 ≤ i.toInt) (hi : i'.toInt = i.toInt + 1) (hc : ¬ κ i.toInt.toNat < x) : a.toInt = (rnkC κ x i'.toInt.toNat : Int) := by
  rw [show i'.toInt.toNat = i.toInt.toNat + 1 by omega, rnkC_n hc]
  exact h
theorem keyA_c {fp : Nat → Int32} {c : Nat → Int32} {np : Int} {p : Nat} (h : ∀ j : Nat, (j : Int) < 4 * np → fp j = c j) (h0 : 0 ≤ np) (hp : (p : Int) < np) : rnkC (keyA fp) (keyA fp p) np.toNat = rnk (keyA c) np.toNat p := by
  have e : keyA fp p = keyA c p := by
    unfold keyA
    rw [h (4 * p + 1) (by omega)]
  show rnkC (keyA fp) (keyA fp p) np.toNat = rnkC (keyA c) (keyA c p) np.toNat
  rw [e]
  exact rnkC_c np.toNat (fun j hj => by
    unfold keyA
    rw [h (4 * j + 1) (by omega)])
theorem keyP_c {Y : Nat → Int32} {c : Nat → Int32} {nb : Int} {p : Nat} (h : ∀ j : Nat, (j : Int) < nb → Y j = c j) (h0 : 0 ≤ nb) (hp : (p : Int) < nb) : rnkC (keyP Y) (keyP Y p) nb.toNat = rnk (keyP c) nb.toNat p := by
  have e : keyP Y p = keyP c p := by
    unfold keyP
    rw [h p (by omega)]
  show rnkC (keyP Y) (keyP Y p) nb.toNat = rnkC (keyP c) (keyP c p) nb.toNat
  rw [e]
  exact rnkC_c nb.toNat (fun j hj => by
    unfold keyP
    rw [h j (by omega)])
def chT : List Nat → Int → Int
  | [], r => r
  | p :: t, r => chT t (10 * r + (p : Int))
def chS (f : Nat → Int) : List Nat → Int
  | [] => 0
  | p :: t => f p + chS f t
theorem chT_a : ∀ (s : List Nat) (p : Nat) (r : Int), chT (s ++ [p]) r = 10 * chT s r + (p : Int) := by
  intro s
  induction s with
  | nil => intro p r; rfl
  | cons a s ih => intro p r; exact ih p (10 * r + (a : Int))
theorem chS_a {f : Nat → Int} : ∀ (s : List Nat) (p : Nat), chS f (s ++ [p]) = chS f s + f p := by
  intro s
  induction s with
  | nil => intro p; show f p + 0 = 0 + f p; omega
  | cons a s ih =>
    intro p
    have e := ih p
    show f a + chS f (s ++ [p]) = f a + chS f s + f p
    omega
def ch10 : Nat → Int
  | 0 => 1
  | n + 1 => 10 * ch10 n
theorem ch10_p : ∀ n : Nat, 1 ≤ ch10 n := by
  intro n
  induction n with
  | zero => exact Int.le_refl _
  | succ n ih => show 1 ≤ 10 * ch10 n; omega
theorem chT_b : ∀ (t : List Nat) (r : Int), (∀ p ∈ t, p ≤ 9) → r * ch10 t.length ≤ chT t r ∧ chT t r < (r + 1) * ch10 t.length := by
  intro t
  induction t with
  | nil =>
    intro r _
    show r * 1 ≤ r ∧ r < (r + 1) * 1
    omega
  | cons a t ih =>
    intro r h
    have ha := h a (List.mem_cons_self ..)
    have z := ih (10 * r + (a : Int)) (fun p hp => h p (List.mem_cons_of_mem _ hp))
    have k := ch10_p t.length
    show r * (10 * ch10 t.length) ≤ chT t (10 * r + (a : Int)) ∧ chT t (10 * r + (a : Int)) < (r + 1) * (10 * ch10 t.length)
    have e1 : r * (10 * ch10 t.length) = (10 * r) * ch10 t.length := by rw [← Int.mul_assoc, Int.mul_comm r 10]
    have e2 : (r + 1) * (10 * ch10 t.length) = (10 * r + 10) * ch10 t.length := by rw [← Int.mul_assoc, Int.mul_comm (r + 1) 10, Int.mul_add, Int.mul_one]
    have m1 : (10 * r) * ch10 t.length ≤ (10 * r + (a : Int)) * ch10 t.length := Int.mul_le_mul_of_nonneg_right (by omega) (by omega)
    have m2 : (10 * r + (a : Int) + 1) * ch10 t.length ≤ (10 * r + 10) * ch10 t.length := Int.mul_le_mul_of_nonneg_right (by omega) (by omega)
    rw [e1, e2]
    omega
theorem chT_lt {t u : List Nat} {a b : Nat} {r : Int} (h : a < b) (ht : ∀ p ∈ t, p ≤ 9) (hu : ∀ p ∈ u, p ≤ 9) (hl : t.length = u.length) : chT t (10 * r + (a : Int)) ≤ chT u (10 * r + (b : Int)) := by
  have z1 := (chT_b t (10 * r + (a : Int)) ht).2
  have z2 := (chT_b u (10 * r + (b : Int)) hu).1
  have k := ch10_p u.length
  rw [hl] at z1
  have m : (10 * r + (a : Int) + 1) * ch10 u.length ≤ (10 * r + (b : Int)) * ch10 u.length := Int.mul_le_mul_of_nonneg_right (by omega) (by omega)
  omega
theorem chE_l : ∀ (g t : List Nat), g.Nodup → (∀ x ∈ g, x ∈ t) → g.length ≤ t.length := by
  intro g
  induction g with
  | nil => intro t _ _; exact Nat.zero_le _
  | cons a g ih =>
    intro t hn hs
    have ha := hs a (List.mem_cons_self ..)
    have n1 := (List.nodup_cons.mp hn).1
    have z := ih (t.erase a) (List.nodup_cons.mp hn).2 (fun x hx => (List.mem_erase_of_ne (show x ≠ a from fun e => n1 (e ▸ hx))).mpr (hs x (List.mem_cons_of_mem _ hx)))
    have l := List.length_erase_of_mem ha
    have p : 0 < t.length := List.length_pos_of_mem ha
    show g.length + 1 ≤ t.length
    omega
theorem chE_x {g t : List Nat} {x : Nat} (hn : g.Nodup) (hl : t.length ≤ g.length) (hx : x ∈ t) (hg : ¬ x ∈ g) : ∃ y : Nat, y ∈ g ∧ ¬ y ∈ t := by
  by_cases q : ∃ y : Nat, y ∈ g ∧ ¬ y ∈ t
  · exact q
  · exfalso
    have s : ∀ y ∈ g, y ∈ t.erase x := fun y hy => by
      have yt : y ∈ t := by
        by_cases c : y ∈ t
        · exact c
        · exact absurd ⟨y, hy, c⟩ q
      exact (List.mem_erase_of_ne (show y ≠ x from fun e => hg (e ▸ hy))).mpr yt
    have z := chE_l g (t.erase x) hn s
    have l := List.length_erase_of_mem hx
    have p : 0 < t.length := List.length_pos_of_mem hx
    omega
theorem chE_s {x : Nat → Int} : ∀ (l : List Nat) (a : Nat), a ∈ l → chS x l = x a + chS x (l.erase a) := by
  intro l
  induction l with
  | nil => intro a h; cases h
  | cons b l ih =>
    intro a h
    by_cases q : b = a
    · rw [q, List.erase_cons_head]
      rfl
    · have h2 : a ∈ l := by
        rcases List.mem_cons.mp h with e | e
        · exact absurd e.symm q
        · exact e
      rw [List.erase_cons_tail (by simpa using q)]
      have z := ih a h2
      show x b + chS x l = x a + (x b + chS x (l.erase a))
      omega
theorem chE_0 {x : Nat → Int} : ∀ l : List Nat, (∀ g ∈ l, x g ≤ 0) → chS x l ≤ 0 ∧ (0 ≤ chS x l → ∀ g ∈ l, x g = 0) := by
  intro l
  induction l with
  | nil => intro _; exact ⟨Int.le_refl _, fun _ g hg => (by cases hg)⟩
  | cons b l ih =>
    intro h
    have hb := h b (List.mem_cons_self ..)
    have z := ih (fun g hg => h g (List.mem_cons_of_mem _ hg))
    show x b + chS x l ≤ 0 ∧ (0 ≤ x b + chS x l → ∀ g ∈ b :: l, x g = 0)
    refine ⟨by have := z.1; omega, fun q g hg => ?_⟩
    have z1 := z.1
    rcases List.mem_cons.mp hg with e | e
    · rw [e]
      omega
    · exact z.2 (by omega) g e
theorem chE_d {x : Nat → Int} : ∀ (u g : List Nat), u.Nodup → (∀ y ∈ u, y ∈ g) → (∀ y ∈ g, x y ≤ 0) → chS x g ≤ chS x u ∧ (chS x u ≤ chS x g → ∀ y ∈ g, ¬ y ∈ u → x y = 0) := by
  intro u
  induction u with
  | nil =>
    intro g _ _ h
    have z := chE_0 g h
    exact ⟨z.1, fun q y hy _ => z.2 q y hy⟩
  | cons a u ih =>
    intro g hn hs h
    have ha := hs a (List.mem_cons_self ..)
    have n1 := (List.nodup_cons.mp hn).1
    have z := ih (g.erase a) (List.nodup_cons.mp hn).2 (fun y hy => (List.mem_erase_of_ne (show y ≠ a from fun e => n1 (e ▸ hy))).mpr (hs y (List.mem_cons_of_mem _ hy))) (fun y hy => h y (List.mem_of_mem_erase hy))
    have e := chE_s (x := x) g a ha
    have e2 : chS x (a :: u) = x a + chS x u := rfl
    refine ⟨by have := z.1; omega, fun q y hy hu => ?_⟩
    have ya : ¬ y = a := fun w => hu (w ▸ List.mem_cons_self ..)
    exact z.2 (by omega) y ((List.mem_erase_of_ne ya).mpr hy) (fun w => hu (List.mem_cons_of_mem _ w))
theorem chE_f {x : Nat → Int} {φ : Nat → Bool} : ∀ t : List Nat, chS x t = chS x (t.filter φ) + chS x (t.filter (fun y => !φ y)) := by
  intro t
  induction t with
  | nil => rfl
  | cons a t ih =>
    cases q : φ a with
    | true =>
      have f1 : (a :: t).filter φ = a :: t.filter φ := by rw [List.filter_cons]; exact if_pos q
      have f2 : (a :: t).filter (fun y => !φ y) = t.filter (fun y => !φ y) := by rw [List.filter_cons]; exact if_neg (by show ¬ (!φ a) = true; rw [q]; decide)
      rw [f1, f2]
      show x a + chS x t = (x a + chS x (t.filter φ)) + chS x (t.filter (fun y => !φ y))
      omega
    | false =>
      have f1 : (a :: t).filter φ = t.filter φ := by rw [List.filter_cons]; exact if_neg (by rw [q]; decide)
      have f2 : (a :: t).filter (fun y => !φ y) = a :: t.filter (fun y => !φ y) := by rw [List.filter_cons]; exact if_pos (by show (!φ a) = true; rw [q]; decide)
      rw [f1, f2]
      show x a + chS x t = chS x (t.filter φ) + (x a + chS x (t.filter (fun y => !φ y)))
      omega
theorem chE_p {x : Nat → Int} : ∀ l : List Nat, (∀ g ∈ l, 0 ≤ x g) → 0 ≤ chS x l ∧ (chS x l ≤ 0 → ∀ g ∈ l, x g = 0) := by
  intro l
  induction l with
  | nil => intro _; exact ⟨Int.le_refl _, fun _ g hg => (by cases hg)⟩
  | cons b l ih =>
    intro h
    have hb := h b (List.mem_cons_self ..)
    have z := ih (fun g hg => h g (List.mem_cons_of_mem _ hg))
    show 0 ≤ x b + chS x l ∧ (x b + chS x l ≤ 0 → ∀ g ∈ b :: l, x g = 0)
    refine ⟨by have := z.1; omega, fun q g hg => ?_⟩
    have z1 := z.1
    rcases List.mem_cons.mp hg with e | e
    · rw [e]
      omega
    · exact z.2 (by omega) g e
theorem chE_t {f : Nat → Int} {τ : Int} : ∀ l : List Nat, chS f l = chS (fun p => f p - τ) l + τ * (l.length : Int) := by
  intro l
  induction l with
  | nil => show (0 : Int) = 0 + τ * 0; omega
  | cons b l ih =>
    show f b + chS f l = (f b - τ + chS (fun p => f p - τ) l) + τ * ((l.length + 1 : Nat) : Int)
    have e0 : ((l.length + 1 : Nat) : Int) = (l.length : Int) + 1 := by omega
    rw [e0, Int.mul_add, Int.mul_one]
    omega
theorem chMin {f : Nat → Int} {τ : Int} {g t : List Nat} (hg : ∀ y ∈ g, f y ≤ τ) (ht : ∀ y ∈ t, ¬ y ∈ g → τ ≤ f y) (nt : t.Nodup) (hl : t.length = g.length) : chS f g ≤ chS f t ∧ (chS f t ≤ chS f g → (∀ y ∈ g, ¬ y ∈ t → f y = τ) ∧ ∀ y ∈ t, ¬ y ∈ g → f y = τ) := by
  have e1 := chE_t (f := f) (τ := τ) g
  have e2 := chE_t (f := f) (τ := τ) t
  rw [hl] at e2
  have e3 := chE_f (x := fun p => f p - τ) (φ := fun y => decide (y ∈ g)) t
  have d := chE_d (x := fun p => f p - τ) (t.filter (fun y => decide (y ∈ g))) g (List.Pairwise.filter _ nt) (fun y hy => of_decide_eq_true (List.mem_filter.mp hy).2) (fun y hy => by have := hg y hy; show f y - τ ≤ 0; omega)
  have p := chE_p (x := fun p => f p - τ) (t.filter (fun y => !decide (y ∈ g))) (fun y hy => by
    have m := List.mem_filter.mp hy
    have w := ht y m.1 (by simpa using m.2)
    show 0 ≤ f y - τ
    omega)
  have d1 := d.1
  have p1 := p.1
  refine ⟨by omega, fun q => ⟨fun y hy hn => ?_, fun y hy hn => ?_⟩⟩
  · have w := d.2 (by omega) y hy (fun z => hn (List.mem_filter.mp z).1)
    have w : f y - τ = 0 := w
    omega
  · have w := p.2 (by omega) y (List.mem_filter.mpr ⟨hy, by simpa using hn⟩)
    have w : f y - τ = 0 := w
    omega
theorem chRow : ∀ (g t : List Nat) (r : Int), g.Pairwise (fun a b => a < b) → t.Nodup → t.length = g.length → (∀ y ∈ g, y ≤ 9) → (∀ y ∈ t, y ≤ 9) → (∀ y ∈ g, ¬ y ∈ t → ∀ a ∈ t, ¬ a ∈ g → y < a) → chT g r ≤ chT t r := by
  intro g
  induction g with
  | nil =>
    intro t r _ _ hl _ _ _
    have e : t = [] := List.eq_nil_of_length_eq_zero hl
    rw [e]
    exact Int.le_refl _
  | cons a g ih =>
    intro t r hp nt hl h9 t9 hx
    cases t with
    | nil => exact absurd hl (by simp)
    | cons b t =>
      have hl2 : t.length = g.length := by
        have := hl
        simp only [List.length_cons] at this
        omega
      have hp1 := (List.pairwise_cons.mp hp).1
      have hp2 := (List.pairwise_cons.mp hp).2
      have ng : (a :: g).Nodup := hp.imp (fun h => Nat.ne_of_lt h)
      have nt1 := (List.nodup_cons.mp nt).1
      have nt2 := (List.nodup_cons.mp nt).2
      have g9 : ∀ p ∈ g, p ≤ 9 := fun p hq => h9 p (List.mem_cons_of_mem _ hq)
      have t9' : ∀ p ∈ t, p ≤ 9 := fun p hq => t9 p (List.mem_cons_of_mem _ hq)
      have hab : a ≤ b := by
        by_cases c : a ≤ b
        · exact c
        · exfalso
          have bg : ¬ b ∈ a :: g := fun m => by
            rcases List.mem_cons.mp m with e | e
            · omega
            · have := hp1 b e
              omega
          obtain ⟨y, y1, y2⟩ := chE_x (t := b :: t) ng (by omega) (List.mem_cons_self ..) bg
          have w := hx y y1 y2 b (List.mem_cons_self ..) bg
          rcases List.mem_cons.mp y1 with e | e
          · omega
          · have := hp1 y e
            omega
      show chT g (10 * r + (a : Int)) ≤ chT t (10 * r + (b : Int))
      by_cases c : a = b
      · rw [← c]
        rw [← c] at nt1 hx
        refine ih t (10 * r + (a : Int)) hp2 nt2 hl2 g9 t9' (fun y hy hn z hz hm => ?_)
        have ya : ¬ y = a := fun e => by
          have := hp1 y hy
          omega
        have za : ¬ z = a := fun e => nt1 (e ▸ hz)
        exact hx y (List.mem_cons_of_mem _ hy) (fun m => by
          rcases List.mem_cons.mp m with e | e
          · exact ya e
          · exact hn e) z (List.mem_cons_of_mem _ hz) (fun m => by
          rcases List.mem_cons.mp m with e | e
          · exact za e
          · exact hm e)
      · exact chT_lt (by omega) g9 t9' hl2.symm
def chU (f : Nat → Int) (s : List Nat) (q : Int × Int) : Int × Int := if q.1 = -1 ∨ chS f s < q.2 ∨ (chS f s = q.2 ∧ chT s 0 < q.1) then (chT s 0, chS f s) else q
def chX (f : Nat → Int) (np : Nat) (B : Nat → Bool) : Nat → Nat → List Nat → Int × Int → Int × Int
  | 0, _, s, q => chU f s q
  | k + 1, b, s, q => if B b = true then (List.range np).foldl (fun q p => if p ∈ s then q else chX f np B k (b + 1) (s ++ [p]) q) q else chX f np B k (b + 1) s q
def chL (f : Nat → Int) (np : Nat) (B : Nat → Bool) (k b : Nat) (s : List Nat) (q : Int × Int) (m : Nat) : Int × Int := (List.range m).foldl (fun q p => if p ∈ s then q else chX f np B k (b + 1) (s ++ [p]) q) q
theorem chL_0 {f : Nat → Int} {np : Nat} {B : Nat → Bool} {k b : Nat} {s : List Nat} {q : Int × Int} : chL f np B k b s q 0 = q := rfl
theorem chL_s {f : Nat → Int} {np : Nat} {B : Nat → Bool} {k b : Nat} {s : List Nat} {q : Int × Int} {m : Nat} : chL f np B k b s q (m + 1) = if m ∈ s then chL f np B k b s q m else chX f np B k (b + 1) (s ++ [m]) (chL f np B k b s q m) := by
  unfold chL
  rw [List.range_succ, List.foldl_append]
  rfl
theorem chX_y {f : Nat → Int} {np : Nat} {B : Nat → Bool} {k b : Nat} {s : List Nat} {q : Int × Int} (h : B b = true) : chX f np B (k + 1) b s q = chL f np B k b s q np := if_pos h
theorem chX_n {f : Nat → Int} {np : Nat} {B : Nat → Bool} {k b : Nat} {s : List Nat} {q : Int × Int} (h : ¬ B b = true) : chX f np B (k + 1) b s q = chX f np B k (b + 1) s q := if_neg h
def chB (f : Nat → Int) (q : Int × Int) (t : List Nat) : Prop := ¬ q.1 = -1 ∧ (q.2 < chS f t ∨ (q.2 = chS f t ∧ q.1 ≤ chT t 0))
def chM (q q' : Int × Int) : Prop := ¬ q.1 = -1 → ¬ q'.1 = -1 ∧ (q'.2 < q.2 ∨ (q'.2 = q.2 ∧ q'.1 ≤ q.1))
def chQ (f : Nat → Int) (q q' : Int × Int) (P : List Nat → Prop) : Prop := chM q q' ∧ (∀ t : List Nat, P t → chB f q' t) ∧ (q' = q ∨ ∃ t : List Nat, P t ∧ q' = (chT t 0, chS f t))
theorem chM_r {q : Int × Int} : chM q q := fun h => ⟨h, Or.inr ⟨rfl, Int.le_refl _⟩⟩
theorem chM_t {a b c : Int × Int} (h1 : chM a b) (h2 : chM b c) : chM a c := fun h => by
  obtain ⟨x1, x2⟩ := h1 h
  obtain ⟨y1, y2⟩ := h2 x1
  exact ⟨y1, by omega⟩
theorem chB_m {f : Nat → Int} {a b : Int × Int} {t : List Nat} (h : chB f a t) (m : chM a b) : chB f b t := by
  obtain ⟨x1, x2⟩ := m h.1
  have y := h.2
  exact ⟨x1, by omega⟩
theorem chQ_t {f : Nat → Int} {a b c : Int × Int} {P R : List Nat → Prop} (h1 : chQ f a b P) (h2 : chQ f b c R) : chQ f a c (fun t => P t ∨ R t) := by
  refine ⟨chM_t h1.1 h2.1, fun t ht => ?_, ?_⟩
  · rcases ht with p | p
    · exact chB_m (h1.2.1 t p) h2.1
    · exact h2.2.1 t p
  · rcases h2.2.2 with e | ⟨t, p, e⟩
    · rcases h1.2.2 with e1 | ⟨t, p, e1⟩
      · exact Or.inl (e.trans e1)
      · exact Or.inr ⟨t, Or.inl p, e.trans e1⟩
    · exact Or.inr ⟨t, Or.inr p, e⟩
theorem chQ_i {f : Nat → Int} {a b : Int × Int} {P R : List Nat → Prop} (h : chQ f a b P) (i : ∀ t : List Nat, P t ↔ R t) : chQ f a b R := ⟨h.1, fun t p => h.2.1 t ((i t).mpr p), h.2.2.imp id (fun ⟨t, p, e⟩ => ⟨t, (i t).mp p, e⟩)⟩
theorem chT_0 : ∀ (t : List Nat) (r : Int), 0 ≤ r → 0 ≤ chT t r := by
  intro t
  induction t with
  | nil => exact fun r h => h
  | cons a t ih => exact fun r h => ih (10 * r + (a : Int)) (by omega)
theorem chU_q {f : Nat → Int} {s : List Nat} {q : Int × Int} : chQ f q (chU f s q) (fun t => t = s) := by
  have n := chT_0 s 0 (Int.le_refl _)
  unfold chU
  by_cases c : q.1 = -1 ∨ chS f s < q.2 ∨ (chS f s = q.2 ∧ chT s 0 < q.1)
  · rw [if_pos c]
    refine ⟨fun h => ⟨?_, ?_⟩, fun t e => ⟨?_, ?_⟩, Or.inr ⟨s, rfl, rfl⟩⟩
    · show ¬ chT s 0 = -1
      omega
    · show chS f s < q.2 ∨ (chS f s = q.2 ∧ chT s 0 ≤ q.1)
      omega
    · show ¬ chT s 0 = -1
      omega
    · show chS f s < chS f t ∨ (chS f s = chS f t ∧ chT s 0 ≤ chT t 0)
      rw [e]
      omega
  · rw [if_neg c]
    refine ⟨chM_r, fun t e => ⟨by omega, ?_⟩, Or.inl rfl⟩
    rw [e]
    omega
def chR (np : Nat) (B : Nat → Bool) : Nat → Nat → List Nat → List Nat → Prop
  | 0, _, s, t => t = s
  | k + 1, b, s, t => (B b = true ∧ ∃ p : Nat, p < np ∧ ¬ p ∈ s ∧ chR np B k (b + 1) (s ++ [p]) t) ∨ (¬ B b = true ∧ chR np B k (b + 1) s t)
theorem chL_q {f : Nat → Int} {np : Nat} {B : Nat → Bool} {k b : Nat} {s : List Nat} {q : Int × Int} (ih : ∀ (s : List Nat) (q : Int × Int), chQ f q (chX f np B k (b + 1) s q) (chR np B k (b + 1) s)) : ∀ m : Nat, chQ f q (chL f np B k b s q m) (fun t => ∃ p : Nat, p < m ∧ ¬ p ∈ s ∧ chR np B k (b + 1) (s ++ [p]) t) := by
  intro m
  induction m with
  | zero => exact ⟨chM_r, fun t ⟨p, h, _⟩ => absurd h (by omega), Or.inl rfl⟩
  | succ m im =>
    rw [chL_s]
    by_cases c : m ∈ s
    · rw [if_pos c]
      refine chQ_i im (fun t => ⟨fun ⟨p, p1, p2⟩ => ⟨p, by omega, p2⟩, fun ⟨p, p1, p2, p3⟩ => ⟨p, ?_, p2, p3⟩⟩)
      have e : ¬ p = m := fun e => p2 (e ▸ c)
      omega
    · rw [if_neg c]
      refine chQ_i (chQ_t im (ih (s ++ [m]) _)) (fun t => ⟨fun h => ?_, fun ⟨p, p1, p2, p3⟩ => ?_⟩)
      · rcases h with ⟨p, p1, p2⟩ | h
        · exact ⟨p, by omega, p2⟩
        · exact ⟨m, by omega, c, h⟩
      · by_cases e : p = m
        · rw [e] at p3
          exact Or.inr p3
        · exact Or.inl ⟨p, by omega, p2, p3⟩
theorem chX_q {f : Nat → Int} {np : Nat} {B : Nat → Bool} : ∀ (k b : Nat) (s : List Nat) (q : Int × Int), chQ f q (chX f np B k b s q) (chR np B k b s) := by
  intro k
  induction k with
  | zero => exact fun b s q => chU_q
  | succ k ih =>
    intro b s q
    by_cases c : B b = true
    · rw [chX_y c]
      exact chQ_i (chL_q (ih (b + 1)) np) (fun t => ⟨fun h => Or.inl ⟨c, h⟩, fun h => by
        rcases h with h | h
        · exact h.2
        · exact absurd c h.1⟩)
    · rw [chX_n c]
      exact chQ_i (ih (b + 1) s q) (fun t => ⟨fun h => Or.inr ⟨c, h⟩, fun h => by
        rcases h with h | h
        · exact absurd h.1 c
        · exact h.2⟩)
def chW (B : Nat → Bool) : Nat → Nat → Nat
  | 0, _ => 0
  | k + 1, b => if B b = true then chW B k (b + 1) + 1 else chW B k (b + 1)
theorem chR_i {np : Nat} {B : Nat → Bool} : ∀ (k b : Nat) (s t : List Nat), s.Nodup → (∀ p ∈ s, p < np) → (chR np B k b s t ↔ t.Nodup ∧ (∀ p ∈ t, p < np) ∧ t.length = s.length + chW B k b ∧ t.take s.length = s) := by
  intro k
  induction k with
  | zero =>
    intro b s t hn hs
    constructor
    · intro e
      have e : t = s := e
      rw [e]
      exact ⟨hn, hs, rfl, List.take_length⟩
    · intro ⟨_, _, h3, h4⟩
      have h3 : t.length = s.length := h3
      rw [← h3, List.take_length] at h4
      exact h4
  | succ k ih =>
    intro b s t hn hs
    by_cases c : B b = true
    · have w : chW B (k + 1) b = chW B k (b + 1) + 1 := if_pos c
      rw [w]
      constructor
      · intro h
        rcases h with h | h
        · obtain ⟨_, p, p1, p2, p3⟩ := h
          have n2 : (s ++ [p]).Nodup := List.nodup_append.mpr ⟨hn, List.nodup_cons.mpr ⟨(by simp), List.nodup_nil⟩, fun a ha b hb e => by
            rw [List.mem_singleton.mp hb] at e
            exact p2 (e ▸ ha)⟩
          have s2 : ∀ x ∈ s ++ [p], x < np := fun x hx => by
            rcases List.mem_append.mp hx with y | y
            · exact hs x y
            · rw [List.mem_singleton.mp y]
              exact p1
          obtain ⟨a1, a2, a3, a4⟩ := (ih (b + 1) (s ++ [p]) t n2 s2).mp p3
          rw [List.length_append, List.length_singleton] at a3 a4
          refine ⟨a1, a2, by omega, ?_⟩
          have z := congrArg (List.take s.length) a4
          rw [List.take_take, Nat.min_eq_left (by omega), List.take_left] at z
          exact z
        · exact absurd c h.1
      · intro ⟨a1, a2, a3, a4⟩
        refine Or.inl ⟨c, ?_⟩
        have hl : s.length < t.length := by omega
        have tk : t.take (s.length + 1) = s ++ [t[s.length]] := by
          rw [List.take_succ, a4, List.getElem?_eq_getElem hl]
          rfl
        have mt : t[s.length] ∈ t := List.getElem_mem hl
        have nt : (t.take (s.length + 1)).Nodup := List.Pairwise.sublist (List.take_sublist _ _) a1
        rw [tk] at nt
        have ns : ¬ t[s.length] ∈ s := fun m => (List.nodup_append.mp nt).2.2 _ m _ (List.mem_singleton.mpr rfl) rfl
        refine ⟨t[s.length], a2 _ mt, ns, (ih (b + 1) (s ++ [t[s.length]]) t nt (fun x hx => ?_)).mpr ⟨a1, a2, ?_, ?_⟩⟩
        · rcases List.mem_append.mp hx with y | y
          · exact hs x y
          · rw [List.mem_singleton.mp y]
            exact a2 _ mt
        · rw [List.length_append, List.length_singleton]
          omega
        · rw [List.length_append, List.length_singleton]
          exact tk
    · have w : chW B (k + 1) b = chW B k (b + 1) := if_neg c
      rw [w]
      refine Iff.trans ⟨fun h => ?_, fun h => Or.inr ⟨c, h⟩⟩ (ih (b + 1) s t hn hs)
      rcases h with h | h
      · exact absurd h.1 c
      · exact h.2
def chG (c : zK3) (np w : Nat) : List Nat := (List.range np).filter (fun p => decide (rnk (keyA c.2.2) np p < w))
def chf (c : zK3) (p : Nat) : Int := (c.2.2 (4 * p + 1)).toInt
theorem flt_one {P Q : Nat → Bool} {a : Nat} : ∀ l : List Nat, l.Nodup → a ∈ l → P a = false → (∀ x ∈ l, Q x = (P x || x == a)) → (l.filter Q).length = (l.filter P).length + 1 := by
  intro l
  induction l with
  | nil => intro _ h; cases h
  | cons b l ih =>
    intro hn hm hP hQ
    have nb := (List.nodup_cons.mp hn).1
    have qb := hQ b (List.mem_cons_self ..)
    by_cases e : b = a
    · have same : l.filter Q = l.filter P := List.filter_congr (fun x hx => by
        rw [hQ x (List.mem_cons_of_mem _ hx)]
        have xa : ¬ x = a := fun y => nb (by rw [e, ← y]; exact hx)
        rw [show (x == a) = false from beq_false_of_ne xa, Bool.or_false])
      rw [e] at qb
      have q1 : Q a = true := by rw [qb, beq_self_eq_true, Bool.or_true]
      rw [e, List.filter_cons, List.filter_cons, if_pos q1, if_neg (by rw [hP]; decide), same]
      rfl
    · have am : a ∈ l := by
        rcases List.mem_cons.mp hm with y | y
        · exact absurd y.symm e
        · exact y
      have z := ih (List.nodup_cons.mp hn).2 am hP (fun x hx => hQ x (List.mem_cons_of_mem _ hx))
      rw [show (b == a) = false from beq_false_of_ne e, Bool.or_false] at qb
      rw [List.filter_cons, List.filter_cons, qb]
      by_cases p : P b = true
      · rw [if_pos p, if_pos p, List.length_cons, List.length_cons, z]
      · rw [if_neg p, if_neg p, z]
theorem chG_l {c : zK3} {np : Nat} (h5 : np ≤ 5) : ∀ w : Nat, w ≤ np → (chG c np w).length = w := by
  intro w
  induction w with
  | zero =>
    intro _
    have e : chG c np 0 = [] := List.filter_eq_nil_iff.mpr (fun a _ h => absurd (of_decide_eq_true h) (Nat.not_lt_zero _))
    rw [e]
    rfl
  | succ w ih =>
    intro hw
    have ij := keyA_i (f := c.2.2) (n := np) (by omega)
    obtain ⟨p, hp, e⟩ := rnk_ex np ij w (by omega)
    have z := flt_one (P := fun p => decide (rnk (keyA c.2.2) np p < w)) (Q := fun p => decide (rnk (keyA c.2.2) np p < w + 1)) (a := p) (List.range np) List.nodup_range (List.mem_range.mpr hp) (decide_eq_false (by rw [e]; exact Nat.lt_irrefl _)) (fun x hx => by
      have xn := List.mem_range.mp hx
      by_cases y : x = p
      · rw [y, e, beq_self_eq_true, Bool.or_true]
        exact decide_eq_true (Nat.lt_succ_self _)
      · rw [show (x == p) = false from beq_false_of_ne y, Bool.or_false]
        have ne : ¬ rnk (keyA c.2.2) np x = w := fun q => y (rnk_inj ij xn hp (q.trans e.symm))
        by_cases lt : rnk (keyA c.2.2) np x < w
        · rw [decide_eq_true lt]
          exact decide_eq_true (by omega)
        · rw [decide_eq_false lt]
          exact decide_eq_false (by omega))
    have y := ih (by omega)
    unfold chG at y ⊢
    rw [z, y]
theorem chG_m {c : zK3} {np w p : Nat} : p ∈ chG c np w ↔ p < np ∧ rnk (keyA c.2.2) np p < w := by
  unfold chG
  rw [List.mem_filter, List.mem_range]
  exact ⟨fun h => ⟨h.1, of_decide_eq_true h.2⟩, fun h => ⟨h.1, decide_eq_true h.2⟩⟩
theorem rng_lt : ∀ n : Nat, (List.range n).Pairwise (fun a b => a < b) := by
  intro n
  induction n with
  | zero => exact List.Pairwise.nil
  | succ n ih =>
    rw [List.range_succ]
    refine List.pairwise_append.mpr ⟨ih, List.pairwise_singleton _ _, fun a ha b hb => ?_⟩
    rw [List.mem_singleton.mp hb]
    exact List.mem_range.mp ha
theorem chG_p {c : zK3} {np w : Nat} : (chG c np w).Pairwise (fun a b => a < b) := List.Pairwise.filter _ (rng_lt np)
theorem chBest {c : zK3} {np w : Nat} {t : List Nat} (h5 : np ≤ 5) (hw : w ≤ np) (nt : t.Nodup) (ht : ∀ p ∈ t, p < np) (hl : t.length = w) : chS (chf c) (chG c np w) < chS (chf c) t ∨ (chS (chf c) (chG c np w) = chS (chf c) t ∧ chT (chG c np w) 0 ≤ chT t 0) := by
  have gl := chG_l (c := c) h5 w hw
  by_cases w0 : w = 0
  · have e1 : t = [] := List.eq_nil_of_length_eq_zero (by omega)
    have e2 : chG c np w = [] := List.eq_nil_of_length_eq_zero (by omega)
    rw [e1, e2]
    exact Or.inr ⟨rfl, Int.le_refl _⟩
  · have ij := keyA_i (f := c.2.2) (n := np) (by omega)
    obtain ⟨m, hm, e⟩ := rnk_ex np ij (w - 1) (by omega)
    have g1 : ∀ y ∈ chG c np w, chf c y ≤ chf c m := fun y hy => by
      have a := chG_m.mp hy
      have b : ¬ keyA c.2.2 m < keyA c.2.2 y := fun z => by
        have := rnk_mono (n := np) hm z
        omega
      unfold keyA at b
      unfold chf
      omega
    have g2 : ∀ y ∈ t, ¬ y ∈ chG c np w → chf c m ≤ chf c y := fun y hy hn => by
      have yn := ht y hy
      have a : ¬ rnk (keyA c.2.2) np y < w := fun z => hn (chG_m.mpr ⟨yn, z⟩)
      have b : ¬ keyA c.2.2 y < keyA c.2.2 m := fun z => by
        have := rnk_mono (n := np) yn z
        omega
      unfold keyA at b
      unfold chf
      omega
    have q := chMin (f := chf c) (τ := chf c m) g1 g2 nt (by omega)
    by_cases lt : chS (chf c) (chG c np w) < chS (chf c) t
    · exact Or.inl lt
    · refine Or.inr ⟨by have := q.1; omega, ?_⟩
      obtain ⟨q1, q2⟩ := q.2 (by omega)
      refine chRow _ t 0 chG_p nt (by omega) (fun y hy => by have := (chG_m.mp hy).1; omega) (fun y hy => by have := ht y hy; omega) (fun y hy hn a ha hm2 => ?_)
      have e1 := q1 y hy hn
      have e2 := q2 a ha hm2
      have r1 := (chG_m.mp hy)
      have r2 : ¬ rnk (keyA c.2.2) np a < w := fun z => hm2 (chG_m.mpr ⟨ht a ha, z⟩)
      have k := (rnk_iff (κ := keyA c.2.2) (n := np) (p := y) (q := a) r1.1).mp (by omega)
      unfold keyA at k
      unfold chf at e1 e2
      omega
theorem chAll {c : zK3} {np nb : Nat} {B : Nat → Bool} {y : Int} (h5 : np ≤ 5) : chX (chf c) np B nb 0 [] (-1, y) = if chW B nb 0 ≤ np then (chT (chG c np (chW B nb 0)) 0, chS (chf c) (chG c np (chW B nb 0))) else (-1, y) := by
  obtain ⟨m1, m2, m3⟩ := chX_q (f := chf c) (np := np) (B := B) nb 0 [] (-1, y)
  have ri := fun t => chR_i (np := np) (B := B) nb 0 [] t List.nodup_nil (fun p h => by cases h)
  by_cases hw : chW B nb 0 ≤ np
  · rw [if_pos hw]
    have gl := chG_l (c := c) h5 _ hw
    have gn : (chG c np (chW B nb 0)).Nodup := chG_p.imp (fun h => Nat.ne_of_lt h)
    have gr := (ri (chG c np (chW B nb 0))).mpr ⟨gn, fun p hp => (chG_m.mp hp).1, by rw [gl]; show _ = 0 + _; omega, rfl⟩
    have b := m2 _ gr
    rcases m3 with e | ⟨t, p, e⟩
    · rw [e] at b
      exact absurd rfl b.1
    · rw [e] at b ⊢
      obtain ⟨t1, t2, t3, _⟩ := (ri t).mp p
      have t3 : t.length = 0 + chW B nb 0 := t3
      have z := chBest (c := c) h5 hw t1 t2 (by omega)
      have b2 : chS (chf c) t < chS (chf c) (chG c np (chW B nb 0)) ∨ (chS (chf c) t = chS (chf c) (chG c np (chW B nb 0)) ∧ chT t 0 ≤ chT (chG c np (chW B nb 0)) 0) := b.2
      have e1 : chT t 0 = chT (chG c np (chW B nb 0)) 0 := by omega
      have e2 : chS (chf c) t = chS (chf c) (chG c np (chW B nb 0)) := by omega
      rw [e1, e2]
  · rw [if_neg hw]
    rcases m3 with e | ⟨t, p, e⟩
    · exact e
    · exfalso
      obtain ⟨t1, t2, t3, _⟩ := (ri t).mp p
      have t3 : t.length = 0 + chW B nb 0 := t3
      have z := chE_l t (List.range np) t1 (fun x hx => List.mem_range.mpr (t2 x hx))
      rw [List.length_range] at z
      omega
theorem zpw_d : ∀ n : Fin 7, ((1 : Int32) <<< (Int32.ofNat n.val &&& 31)).toInt = pw2 n.val ∧ 1 ≤ ((1 : Int32) <<< (Int32.ofNat n.val &&& 31)).toInt ∧ ((1 : Int32) <<< (Int32.ofNat n.val &&& 31)).toInt ≤ 64 := by decide +kernel
theorem zpw {v n : Int32} (e : v = (1 : Int32) <<< (n &&& 31)) (h0 : 0 ≤ n.toInt) (h6 : n.toInt ≤ 6) : v.toInt = pw2 n.toInt.toNat ∧ 1 ≤ v.toInt ∧ v.toInt ≤ 64 := by
  have z := zpw_d ⟨n.toInt.toNat, by omega⟩
  dsimp only at z
  rw [← zk32 h0] at z
  rw [e]
  exact z
abbrev chBt (set : Int32) (b : Nat) : Bool := decide ((cBt set (Int32.ofNat b)).toInt = 1)
theorem chW_d : ∀ s : Fin 64, ∀ n : Fin 7, (s.val : Int) < pw2 n.val → sBn s.val = (chW (chBt (Int32.ofNat s.val)) n.val 0 : Int) := by decide +kernel
theorem chW_e {v s : Int32} {n : Int} (e : v = sBc s) (h0 : 0 ≤ s.toInt) (h6 : 0 ≤ n ∧ n ≤ 6) (h : s.toInt < pw2 n.toNat) : v.toInt = (chW (chBt s) n.toNat 0 : Int) := by
  have w : ∀ m : Fin 7, pw2 m.val ≤ 64 := by decide
  have w1 := w ⟨n.toNat, by omega⟩
  dsimp only at w1
  have z := chW_d ⟨s.toInt.toNat, by omega⟩ ⟨n.toNat, by omega⟩ (by show ((s.toInt.toNat : Nat) : Int) < pw2 n.toNat; omega)
  dsimp only at z
  unfold sBn at z
  rw [← zk32 h0] at z
  rw [e]
  exact z
def chP (fp : Nat → Int32) (np : Int) (c : zK3) : Prop := (∀ j : Nat, (j : Int) < 4 * np → fp j = c.2.2 j) ∧ (∀ j : Nat, (j : Int) < np → 0 ≤ (c.2.2 (4 * j + 1)).toInt ∧ (c.2.2 (4 * j + 1)).toInt ≤ 30) ∧ 0 ≤ np ∧ np ≤ 5
def chY (Y : Nat → Int32) (nb : Int) (kY : Nat → Int32) : Prop := (∀ j : Nat, (j : Int) < nb → Y j = kY j) ∧ (∀ j : Nat, (j : Int) < nb → 0 ≤ (kY j).toInt ∧ (kY j).toInt ≤ 9) ∧ 0 ≤ nb ∧ nb ≤ 6
theorem chP_of {fr fb fp : Nat → Int32} {nb np : Int} {c : zK3} {T : zT} (hc : zCn fr fb fp nb np c) (hb : zKo nb np c T) (h0 : 0 ≤ np) (h5 : np ≤ 5) : chP fp np c := ⟨hc.2.2, fun j hj => by
  have d := hb.1.1.2.2 (4 * j + 1) (by omega)
  have d' : hPa ((4 * j + 1) % 4) = 30 := by
    rw [show (4 * j + 1) % 4 = 1 by omega]
    rfl
  rw [d'] at d
  exact d, h0, h5⟩
theorem keyA_d {fp : Nat → Int32} {np : Int} {c : zK3} {i p a b d : Int32} (hP : chP fp np c) (ha : a = fp (4 * i.toInt.toNat + 1)) (hb : b = fp (4 * p.toInt.toNat + 1)) (ed : d = a - b) (hi : 0 ≤ i.toInt ∧ i.toInt < np) (hp : 0 ≤ p.toInt ∧ p.toInt < np) : keyA c.2.2 i.toInt.toNat < keyA c.2.2 p.toInt.toNat ↔ (d.toInt < 0 ∨ (d.toInt = 0 ∧ i.toInt < p.toInt)) := by
  obtain ⟨h1, h2, h3, h4⟩ := hP
  have a1 := h2 i.toInt.toNat (by omega)
  have b1 := h2 p.toInt.toNat (by omega)
  rw [← h1 (4 * i.toInt.toNat + 1) (by omega), ← ha] at a1
  rw [← h1 (4 * p.toInt.toNat + 1) (by omega), ← hb] at b1
  have e : d.toInt = a.toInt - b.toInt := zsub ed rfl rfl (by omega) (by omega)
  unfold keyA
  rw [← h1 (4 * i.toInt.toNat + 1) (by omega), ← ha, ← h1 (4 * p.toInt.toNat + 1) (by omega), ← hb]
  constructor
  · intro z
    omega
  · intro z
    omega
theorem keyP_d {Y kY : Nat → Int32} {nb : Int} {i p a b d : Int32} (hY : chY Y nb kY) (ha : a = Y i.toInt.toNat) (hb : b = Y p.toInt.toNat) (ed : d = a - b) (hi : 0 ≤ i.toInt ∧ i.toInt < nb) (hp : 0 ≤ p.toInt ∧ p.toInt < nb) : keyP kY i.toInt.toNat < keyP kY p.toInt.toNat ↔ (0 < d.toInt ∨ (d.toInt = 0 ∧ i.toInt < p.toInt)) := by
  obtain ⟨h1, h2, h3, h4⟩ := hY
  have a1 := h2 i.toInt.toNat (by omega)
  have b1 := h2 p.toInt.toNat (by omega)
  rw [← h1 i.toInt.toNat (by omega), ← ha] at a1
  rw [← h1 p.toInt.toNat (by omega), ← hb] at b1
  have e : d.toInt = a.toInt - b.toInt := zsub ed rfl rfl (by omega) (by omega)
  unfold keyP
  rw [← h1 i.toInt.toNat (by omega), ← ha, ← h1 p.toInt.toNat (by omega), ← hb]
  constructor
  · intro z
    omega
  · intro z
    omega
def chK (c : zK3) (np w k : Nat) : List Nat := (List.range k).filter (fun p => decide (rnk (keyA c.2.2) np p < w))
theorem chK_y {c : zK3} {np w k : Nat} (h : rnk (keyA c.2.2) np k < w) : chK c np w (k + 1) = chK c np w k ++ [k] := by
  unfold chK
  rw [List.range_succ, List.filter_append, List.filter_cons, if_pos (decide_eq_true h)]
  rfl
theorem chK_n {c : zK3} {np w k : Nat} (h : ¬ rnk (keyA c.2.2) np k < w) : chK c np w (k + 1) = chK c np w k := by
  unfold chK
  rw [List.range_succ, List.filter_append, List.filter_cons, if_neg (by rw [decide_eq_false h]; decide)]
  show _ ++ [] = _
  rw [List.append_nil]
theorem chK_m {c : zK3} {np w k p : Nat} (h : p ∈ chK c np w k) : p < k := List.mem_range.mp (List.mem_filter.mp h).1
theorem chK_l {c : zK3} {np w : Nat} : ∀ k : Nat, (chK c np w k).length ≤ k := fun k => by
  have z := List.length_filter_le (fun p => decide (rnk (keyA c.2.2) np p < w)) (List.range k)
  rw [List.length_range] at z
  exact z
theorem chS_b {c : zK3} {np : Int} {fp : Nat → Int32} (hP : chP fp np c) : ∀ l : List Nat, (∀ p ∈ l, (p : Int) < np) → 0 ≤ chS (chf c) l ∧ chS (chf c) l ≤ 30 * (l.length : Int) := by
  intro l
  induction l with
  | nil => intro _; show (0 : Int) ≤ 0 ∧ (0 : Int) ≤ 30 * ((0 : Nat) : Int); decide
  | cons a l ih =>
    intro h
    have z := ih (fun p hp => h p (List.mem_cons_of_mem _ hp))
    have y : 0 ≤ chf c a ∧ chf c a ≤ 30 := hP.2.1 a (h a (List.mem_cons_self ..))
    show 0 ≤ chf c a + chS (chf c) l ∧ chf c a + chS (chf c) l ≤ 30 * ((l.length + 1 : Nat) : Int)
    omega
theorem ch10_5 : ∀ n : Fin 7, ch10 n.val ≤ 1000000 := by decide
theorem ch10_4 : ∀ n : Fin 6, ch10 n.val ≤ 100000 := by decide
theorem chT_c {l : List Nat} (h : ∀ p ∈ l, p ≤ 9) (hl : l.length ≤ 6) : 0 ≤ chT l 0 ∧ chT l 0 < 1000000 := by
  have z := chT_b l 0 h
  have y := ch10_5 ⟨l.length, by omega⟩
  dsimp only at y
  have z1 : 0 * ch10 l.length ≤ chT l 0 := z.1
  have z2 : chT l 0 < (0 + 1) * ch10 l.length := z.2
  omega
theorem chKY {c : zK3} {fp : Nat → Int32} {np : Int} {a a' b b' x t i i' r w : Int32} (hP : chP fp np c) (h : a.toInt = chS (chf c) (chK c np.toNat w.toInt.toNat i.toInt.toNat) ∧ b.toInt = chT (chK c np.toNat w.toInt.toNat i.toInt.toNat) 0) (h0 : 0 ≤ i.toInt) (hn : i.toInt < np) (hi : i'.toInt = i.toInt + 1) (F : r.toInt = (rnk (keyA c.2.2) np.toNat i.toInt.toNat : Int)) (hc : r.toInt < w.toInt) (ex : x = fp (4 * i.toInt.toNat + 1)) (ea : a' = a + x) (et : t = 10 * b) (eb : b' = t + i) : a'.toInt = chS (chf c) (chK c np.toNat w.toInt.toNat i'.toInt.toNat) ∧ b'.toInt = chT (chK c np.toNat w.toInt.toNat i'.toInt.toNat) 0 := by
  have h5 := hP.2.2.2
  have kl := chK_l (c := c) (np := np.toNat) (w := w.toInt.toNat) i.toInt.toNat
  have b1 := chS_b hP (chK c np.toNat w.toInt.toNat i.toInt.toNat) (fun p hp => by have := chK_m hp; omega)
  have b2 := chT_c (l := chK c np.toNat w.toInt.toNat i.toInt.toNat) (fun p hp => by have := chK_m hp; omega) (by omega)
  have x1 : x.toInt = chf c i.toInt.toNat := by
    rw [ex, hP.1 (4 * i.toInt.toNat + 1) (by omega)]
    rfl
  have x2 : 0 ≤ chf c i.toInt.toNat ∧ chf c i.toInt.toNat ≤ 30 := hP.2.1 i.toInt.toNat (by omega)
  rw [show i'.toInt.toNat = i.toInt.toNat + 1 by omega, chK_y (by omega), chS_a, chT_a]
  obtain ⟨h1, h2⟩ := h
  have a2 : a'.toInt = a.toInt + x.toInt := zadd ea rfl rfl (by omega) (by omega)
  have t2 : t.toInt = 10 * b.toInt := zmul et (by decide) rfl (by omega) (by omega)
  have b3 : b'.toInt = t.toInt + i.toInt := zadd eb rfl rfl (by omega) (by omega)
  omega
theorem chKN {c : zK3} {np : Int} {a b i i' r w : Int32} (h : a.toInt = chS (chf c) (chK c np.toNat w.toInt.toNat i.toInt.toNat) ∧ b.toInt = chT (chK c np.toNat w.toInt.toNat i.toInt.toNat) 0) (h0 : 0 ≤ i.toInt) (hi : i'.toInt = i.toInt + 1) (F : r.toInt = (rnk (keyA c.2.2) np.toNat i.toInt.toNat : Int)) (hc : w.toInt ≤ r.toInt) : a.toInt = chS (chf c) (chK c np.toNat w.toInt.toNat i'.toInt.toNat) ∧ b.toInt = chT (chK c np.toNat w.toInt.toNat i'.toInt.toNat) 0 := by
  rw [show i'.toInt.toNat = i.toInt.toNat + 1 by omega, chK_n (by omega)]
  exact h
theorem chK0 {c : zK3} {np w : Nat} : (0 : Int32).toInt = chS (chf c) (chK c np w (0 : Int32).toInt.toNat) ∧ (0 : Int32).toInt = chT (chK c np w (0 : Int32).toInt.toNat) 0 := ⟨rfl, rfl⟩
def sV_che (nb np : Int) (c : zK3) (set w : Int32) : Int := if 0 < nb ∧ (1 ≤ set.toInt ∧ set.toInt < pw2 nb.toNat) ∧ (0 ≤ w.toInt ∧ w.toInt ≤ 1) ∧ (chW (chBt set) nb.toNat 0 : Int) ≤ np then (if w.toInt = 0 then chS (chf c) (chG c np.toNat (chW (chBt set) nb.toNat 0)) else chT (chG c np.toNat (chW (chBt set) nb.toNat 0)) 0) else -1
def chI (c : zK3) (np : Nat) (used row fees : Int32) (s : List Nat) (b : Nat) : Prop := row.toInt = chT s 0 ∧ fees.toInt = chS (chf c) s ∧ (∀ p : Nat, p < 5 → ((cBt used (Int32.ofNat p)).toInt = 1 ↔ p ∈ s)) ∧ (∀ p ∈ s, p < np) ∧ s.length ≤ b ∧ 0 ≤ used.toInt ∧ used.toInt ≤ 31
theorem chI_0 {c : zK3} {np : Nat} : chI c np 0 0 0 [] 0 := ⟨by show (0 : Int32).toInt = (0 : Int); decide, by show (0 : Int32).toInt = (0 : Int); decide, fun p hp => by
  have y : ∀ p : Fin 5, ¬ (cBt 0 (Int32.ofNat p.val)).toInt = 1 := by decide
  exact ⟨fun z => absurd z (y ⟨p, hp⟩), fun z => by cases z⟩, fun p hp => (by cases hp), Nat.le_refl _, by decide, by decide⟩
theorem chI_w {c : zK3} {np : Nat} {used row fees : Int32} {s : List Nat} {b b' : Nat} (h : chI c np used row fees s b) (hb : b ≤ b') : chI c np used row fees s b' := ⟨h.1, h.2.1, h.2.2.1, h.2.2.2.1, by have := h.2.2.2.2.1; omega, h.2.2.2.2.2⟩
theorem chI_s {c : zK3} {fp : Nat → Int32} {np : Int} {used row fees u t r x fe i sh : Int32} {s : List Nat} {b : Nat} (h : chI c np.toNat used row fees s b) (hP : chP fp np c) (hb : b ≤ 5) (h0 : 0 ≤ i.toInt) (hn : i.toInt < np) (es : sh = (1 : Int32) <<< (i &&& 31)) (eu : u = used ||| sh) (et : t = 10 * row) (er : r = t + i) (ex : x = fp (4 * i.toInt.toNat + 1)) (ef : fe = fees + x) : chI c np.toNat u r fe (s ++ [i.toInt.toNat]) (b + 1) := by
  obtain ⟨h1, h2, h3, h4, h5, h6, h7⟩ := h
  have p5 := hP.2.2.2
  have b1 := chS_b hP s (fun p hp => by have := h4 p hp; omega)
  have b2 := chT_c (l := s) (fun p hp => by have := h4 p hp; omega) (by omega)
  have x1 : x.toInt = chf c i.toInt.toNat := by
    rw [ex, hP.1 (4 * i.toInt.toNat + 1) (by omega)]
    rfl
  have x2 : 0 ≤ chf c i.toInt.toNat ∧ chf c i.toInt.toNat ≤ 30 := hP.2.1 i.toInt.toNat (by omega)
  have f2 : fe.toInt = fees.toInt + x.toInt := zadd ef rfl rfl (by omega) (by omega)
  have t2 : t.toInt = 10 * row.toInt := zmul et (by decide) rfl (by omega) (by omega)
  have r2 : r.toInt = t.toInt + i.toInt := zadd er rfl rfl (by omega) (by omega)
  have o := zBi_o ⟨used.toInt.toNat, by omega⟩ ⟨i.toInt.toNat, by omega⟩
  dsimp only at o
  rw [← zk32 h6, ← zk32 h0, ← es, ← eu] at o
  refine ⟨by rw [chT_a]; omega, by rw [chS_a]; omega, fun p hp => ?_, fun p hp => ?_, by rw [List.length_append, List.length_singleton]; omega, o.1⟩
  · refine (o.2 ⟨p, hp⟩).trans ?_
    rw [List.mem_append, List.mem_singleton]
    constructor
    · intro z
      rcases z with z | z
      · refine Or.inl ((h3 p hp).mp ?_)
        unfold sBi at z
        dsimp only at z
        rw [← zk32 h6] at z
        exact z
      · exact Or.inr (congrArg Fin.val z)
    · intro z
      rcases z with z | z
      · refine Or.inl ?_
        unfold sBi
        dsimp only
        rw [← zk32 h6]
        exact (h3 p hp).mpr z
      · exact Or.inr (Fin.ext z)
  · rcases List.mem_append.mp hp with z | z
    · exact h4 p z
    · rw [List.mem_singleton.mp z]
      omega
theorem chI_m {c : zK3} {np : Nat} {used row fees i v : Int32} {s : List Nat} {b : Nat} (h : chI c np used row fees s b) (h0 : 0 ≤ i.toInt) (h4 : i.toInt ≤ 4) (hv : v.toInt = (cBt used i).toInt) : v.toInt = 1 ↔ i.toInt.toNat ∈ s := by
  rw [hv]
  have z := h.2.2.1 i.toInt.toNat (by omega)
  rw [← zk32 h0] at z
  exact z
theorem chU_y {c : zK3} {np : Nat} {used row fees sr sf : Int32} {s : List Nat} {b k : Nat} {B : Nat → Bool} (h : chI c np used row fees s b) (hk : k = 0) (hq : sr.toInt = -1 ∨ fees.toInt < sf.toInt ∨ (fees.toInt = sf.toInt ∧ row.toInt < sr.toInt)) : (row.toInt, fees.toInt) = chX (chf c) np B k b s (sr.toInt, sf.toInt) := by
  rw [hk, h.1, h.2.1]
  rw [h.1, h.2.1] at hq
  exact (if_pos hq).symm
theorem chU_n {c : zK3} {np : Nat} {used row fees sr sf : Int32} {s : List Nat} {b k : Nat} {B : Nat → Bool} (h : chI c np used row fees s b) (hk : k = 0) (hq : ¬ (sr.toInt = -1 ∨ fees.toInt < sf.toInt ∨ (fees.toInt = sf.toInt ∧ row.toInt < sr.toInt))) : (sr.toInt, sf.toInt) = chX (chf c) np B k b s (sr.toInt, sf.toInt) := by
  rw [h.1, h.2.1] at hq
  rw [hk]
  exact (if_neg hq).symm
theorem chX_v {f : Nat → Int} {np : Nat} {B : Nat → Bool} {k k' b : Nat} {s : List Nat} {q r : Int × Int} (h : ¬ B b = true) (hk : k = k' + 1) (e : r = chX f np B k' (b + 1) s q) : r = chX f np B k b s q := by
  rw [hk, chX_n h]
  exact e
theorem chX_l {f : Nat → Int} {np m : Nat} {B : Nat → Bool} {k k' b : Nat} {s : List Nat} {q r : Int × Int} (h : B b = true) (hk : k = k' + 1) (hm : m = np) (e : r = chL f np B k' b s q m) : r = chX f np B k b s q := by
  rw [hk, chX_y h]
  rw [hm] at e
  exact e
theorem chL_y {f : Nat → Int} {np : Nat} {B : Nat → Bool} {k b : Nat} {s : List Nat} {q r : Int × Int} {i i' : Int32} (e : r = chL f np B k b s q i.toInt.toNat) (h0 : 0 ≤ i.toInt) (hi : i'.toInt = i.toInt + 1) (hm : i.toInt.toNat ∈ s) : r = chL f np B k b s q i'.toInt.toNat := by
  rw [show i'.toInt.toNat = i.toInt.toNat + 1 by omega, chL_s, if_pos hm]
  exact e
theorem chL_n {f : Nat → Int} {np : Nat} {B : Nat → Bool} {k b : Nat} {s : List Nat} {q r r' : Int × Int} {i i' : Int32} (e : r = chL f np B k b s q i.toInt.toNat) (h0 : 0 ≤ i.toInt) (hi : i'.toInt = i.toInt + 1) (hm : ¬ i.toInt.toNat ∈ s) (er : r' = chX f np B k (b + 1) (s ++ [i.toInt.toNat]) r) : r' = chL f np B k b s q i'.toInt.toNat := by
  rw [show i'.toInt.toNat = i.toInt.toNat + 1 by omega, chL_s, if_neg hm, ← e]
  exact er
theorem sV_cheR {nb np : Int} {c : zK3} {set w sr sf y r : Int32} (h5 : 0 ≤ np ∧ np ≤ 5) (hb : 0 < nb) (hs : 1 ≤ set.toInt ∧ set.toInt < pw2 nb.toNat) (hw : 0 ≤ w.toInt ∧ w.toInt ≤ 1) (e : (sr.toInt, sf.toInt) = chX (chf c) np.toNat (chBt set) nb.toNat 0 [] (-1, y.toInt)) (hr : ((sr.toInt = -1 ∨ w.toInt = 1) ∧ r.toInt = sr.toInt) ∨ (¬ sr.toInt = -1 ∧ ¬ w.toInt = 1 ∧ r.toInt = sf.toInt)) : r.toInt = sV_che nb np c set w := by
  rw [chAll (c := c) (np := np.toNat) (nb := nb.toNat) (B := chBt set) (y := y.toInt) (by omega)] at e
  unfold sV_che
  by_cases q : chW (chBt set) nb.toNat 0 ≤ np.toNat
  · rw [if_pos q] at e
    have e1 : sr.toInt = chT (chG c np.toNat (chW (chBt set) nb.toNat 0)) 0 := congrArg Prod.fst e
    have e2 : sf.toInt = chS (chf c) (chG c np.toNat (chW (chBt set) nb.toNat 0)) := congrArg Prod.snd e
    have n := chT_0 (chG c np.toNat (chW (chBt set) nb.toNat 0)) 0 (Int.le_refl _)
    rw [if_pos ⟨hb, hs, hw, by omega⟩]
    by_cases z : w.toInt = 0
    · rw [if_pos z]
      omega
    · rw [if_neg z]
      omega
  · rw [if_neg q] at e
    have e1 : sr.toInt = -1 := congrArg Prod.fst e
    rw [if_neg (fun z => by have := z.2.2.2; omega)]
    omega
theorem sV_cheC {nb np : Int} {c : zK3} {set w a b r x : Int32} (hb : 0 < nb) (hs : 1 ≤ set.toInt ∧ set.toInt < pw2 nb.toNat) (hw : 0 ≤ w.toInt ∧ w.toInt ≤ 1) (hx : x.toInt = (chW (chBt set) nb.toNat 0 : Int)) (hn : x.toInt ≤ np) (h : a.toInt = chS (chf c) (chK c np.toNat x.toInt.toNat np.toNat) ∧ b.toInt = chT (chK c np.toNat x.toInt.toNat np.toNat) 0) (hr : (w.toInt = 0 ∧ r.toInt = a.toInt) ∨ (¬ w.toInt = 0 ∧ r.toInt = b.toInt)) : r.toInt = sV_che nb np c set w := by
  unfold sV_che
  have e : x.toInt.toNat = chW (chBt set) nb.toNat 0 := by omega
  rw [e] at h
  have k : chK c np.toNat (chW (chBt set) nb.toNat 0) np.toNat = chG c np.toNat (chW (chBt set) nb.toNat 0) := rfl
  rw [k] at h
  rw [if_pos ⟨hb, hs, hw, by omega⟩]
  obtain ⟨h1, h2⟩ := h
  rcases hr with ⟨z, y⟩ | ⟨z, y⟩
  · rw [if_pos z]
    omega
  · rw [if_neg z]
    omega
def mtF (κ : Nat → Int) (n r : Nat) : Nat → Int
  | 0 => -1
  | k + 1 => if mtF κ n r k = -1 ∧ rnk κ n k = r then (k : Int) else mtF κ n r k
theorem mtF_n {κ : Nat → Int} {n r : Nat} : ∀ k : Nat, (∀ j : Nat, j < k → ¬ rnk κ n j = r) → mtF κ n r k = -1 := by
  intro k
  induction k with
  | zero => exact fun _ => rfl
  | succ k ih =>
    intro h
    have z := ih (fun j hj => h j (by omega))
    unfold mtF
    rw [if_neg (fun q => h k (by omega) q.2)]
    exact z
theorem mtF_y {κ : Nat → Int} {n r p : Nat} (hi : rnkI κ n) (hp : p < n) (e : rnk κ n p = r) : ∀ k : Nat, p < k → k ≤ n → mtF κ n r k = (p : Int) := by
  intro k
  induction k with
  | zero => intro h _; exact absurd h (by omega)
  | succ k ih =>
    intro h hk
    unfold mtF
    by_cases c : p = k
    · have z := mtF_n (κ := κ) (n := n) (r := r) k (fun j hj q => by
        have := rnk_inj hi (show j < n by omega) hp (q.trans e.symm)
        omega)
      rw [← c] at z ⊢
      rw [if_pos ⟨z, e⟩]
    · have z := ih (by omega) (by omega)
      rw [if_neg (fun q => by have := q.1; omega)]
      exact z
theorem mtF_e {κ : Nat → Int} {n r : Nat} {k : Int32} (hi : rnkI κ n) (h0 : 0 ≤ k.toInt) (hk : k.toInt < (n : Int)) (e : rnk κ n k.toInt.toNat = r) : k.toInt = mtF κ n r n := by
  rw [mtF_y (p := k.toInt.toNat) hi (by omega) e n (by omega) (Nat.le_refl _)]
  omega
def sV_mat (nb np : Int) (c : zK3) (Y : Nat → Int32) (b : Int32) : Int := if 0 ≤ b.toInt ∧ b.toInt < nb then mtF (keyA c.2.2) np.toNat (rnk (keyP Y) nb.toNat b.toInt.toNat) np.toNat else -1
theorem chY_of {Y F P : Nat → Int32} {pn lt sh wd pu mo : Int32} {nb np : Int} {c : zK3} {T : zT} (h : zSc nb np T.1 Y F P pn lt sh wd pu mo) (hb : zKo nb np c T) (h0 : 0 ≤ nb) (h6 : nb ≤ 6) : chY Y nb T.1.1 := ⟨h.1, fun j hj => hb.2.2.2.1.1 j hj, h0, h6⟩
theorem chY_r {N : Nat → Int32} {nb np : Int} {c : zK3} {T : zT} (h : zSr nb np T.1 N) (hb : zKo nb np c T) (h0 : 0 ≤ nb) (h6 : nb ≤ 6) : chY N nb T.1.1 := ⟨h.1, fun j hj => hb.2.2.2.1.1 j hj, h0, h6⟩
