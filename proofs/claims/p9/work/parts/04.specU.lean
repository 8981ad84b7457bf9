def sLk (c : zK3) (S : zS) (lw : Option ((Int → Int) × Int)) (p b f y : Int32) : Int32 := zLkv lw f (c.2.1 (4 * b.toInt.toNat + 2)) y (c.2.2 (4 * p.toInt.toNat)) (S.2.1 p.toInt.toNat) S.2.2.2.1.2.1
theorem zKo_b6 {nb np : Int} {c : zK3} {T : zT} {p b f y : Int32} (h : zKo nb np c T) (hp : 0 ≤ p.toInt ∧ p.toInt < np) (hb : 0 ≤ b.toInt ∧ b.toInt < nb) (hf : zB6 f) (hy : zB6 y) : zB5 f (c.2.1 (4 * b.toInt.toNat + 2)) y (c.2.2 (4 * p.toInt.toNat)) (T.1.2.1 p.toInt.toNat) T.1.2.2.2.1.2.1 := by
  obtain ⟨a1, a2, -, a4⟩ := zKo_b5 h hp hb hf
  exact ⟨a1, a2, hy, a4⟩
theorem sLk_n {nb np : Int} {c : zK3} {S : zS} {fr fb fp Y F P : Nat → Int32} {pn lt sh wd pu mo p b f y r : Int32} (hc : zCn fr fb fp nb np c) (h : zSc nb np S Y F P pn lt sh wd pu mo) (hp : 0 ≤ p.toInt ∧ p.toInt < np) (hb : 0 ≤ b.toInt ∧ b.toInt < nb) (F0 : ∀ sk m : Int32, r = zLkv none f (fb (4 * b.toInt.toNat + 2)) y sk (F p.toInt.toNat) m) : r = sLk c S none p b f y := by
  unfold sLk
  rw [F0 (c.2.2 (4 * p.toInt.toNat)) S.2.2.2.1.2.1, hc.2.1 (4 * b.toInt.toNat + 2) (by omega), h.2.1 p.toInt.toNat (by omega)]
theorem sLk_l {nb np : Int} {c : zK3} {T : zT} {fr fb fp Y F P fS : Nat → Int32} {pn lt sh wd pu mo p b f y r : Int32} {lk : Nat} {t : (Int → Int) × Int} (hc : zCn fr fb fp nb np c) (hk : zKo nb np c T) (h : zSc nb np T.1 Y F P pn lt sh wd pu mo) (hp : 0 ≤ p.toInt ∧ p.toInt < np) (hb : 0 ≤ b.toInt ∧ b.toInt < nb) (hf : 0 ≤ f.toInt ∧ f.toInt ≤ 9) (hy : 0 ≤ y.toInt ∧ y.toInt ≤ 9) (ht : zLwC fS lk t) (F0 : ∀ t : (Int → Int) × Int, zLwC fS lk t → zB5 f (fb (4 * b.toInt.toNat + 2)) y (fp (4 * p.toInt.toNat)) (F p.toInt.toNat) mo → r = zLkv (some t) f (fb (4 * b.toInt.toNat + 2)) y (fp (4 * p.toInt.toNat)) (F p.toInt.toNat) mo) : r = sLk c T.1 (some t) p b f y := by
  have h5 := zKo_b6 hk hp hb (f := f) (y := y) (by unfold zB6; omega) (by unfold zB6; omega)
  rw [← hc.2.2 (4 * p.toInt.toNat) (by omega), ← hc.2.1 (4 * b.toInt.toNat + 2) (by omega), ← h.2.1 p.toInt.toNat (by omega), zSc_mo h] at h5
  unfold sLk
  rw [F0 t ht h5, hc.2.2 (4 * p.toInt.toNat) (by omega), hc.2.1 (4 * b.toInt.toNat + 2) (by omega), h.2.1 p.toInt.toNat (by omega), zSc_mo h]
theorem zLkv_bb (lw : Option ((Int → Int) × Int)) (f w y s a m : Int32) : -9 ≤ (zLkv lw f w y s a m).toInt ∧ (zLkv lw f w y s a m).toInt ≤ 9 := by
  have z := zLkv_b lw f w y s a m
  omega
def sGn (a o y : Int32) : Int32 := (if o.toInt < a.toInt then 6 else if a.toInt = o.toInt then 3 else 0) - y / 2
def sGm (c : zK3) (S : zS) (lw : Option ((Int → Int) × Int)) (p b o x y : Int32) : Int32 := sGn (sLk c S lw p b (c.2.1 (4 * b.toInt.toNat)) x) (sLk c S lw p o (c.2.1 (4 * o.toInt.toNat)) y) x
abbrev sTwo (nb np : Int) (b o p : Int32) : Prop := (0 ≤ b.toInt ∧ b.toInt < nb) ∧ (0 ≤ o.toInt ∧ o.toInt < nb) ∧ ¬ b.toInt = o.toInt ∧ 0 ≤ p.toInt ∧ p.toInt < np
def sV_gam (nb np : Int) (c : zK3) (S : zS) (lw : Option ((Int → Int) × Int)) (b o p x y w : Int32) : Int32 := if sTwo nb np b o p ∧ (0 ≤ x.toInt ∧ x.toInt ≤ 9) ∧ (0 ≤ y.toInt ∧ y.toInt ≤ 9) ∧ 0 ≤ w.toInt ∧ w.toInt ≤ 1 then (if w.toInt = 0 then sGm c S lw p b o x y else sGm c S lw p o b y x) else -1000000
theorem sGn_d {a o y d k h r : Int32} (ha : 0 ≤ a.toInt ∧ a.toInt ≤ 9) (ho : 0 ≤ o.toInt ∧ o.toInt ≤ 9) (ed : d = a - o) (hk : (0 < d.toInt ∧ k = 6) ∨ (d.toInt = 0 ∧ k = 3) ∨ (d.toInt < 0 ∧ k = 0)) (eh : h = y / 2) (er : r = k - h) : r = sGn a o y := by
  have e : d.toInt = a.toInt - o.toInt := zsub ed rfl rfl (by omega) (by omega)
  unfold sGn
  rw [er, eh]
  rcases hk with ⟨p, q⟩ | ⟨p, q⟩ | ⟨p, q⟩
  · rw [q, if_pos (by omega)]
  · rw [q, if_neg (by omega), if_pos (by omega)]
  · rw [q, if_neg (by omega), if_neg (by omega)]
def sRow (c : zK3) (S : zS) (lw : Option ((Int → Int) × Int)) (p b : Int32) (j : Nat) : Int32 := sLk c S lw p b (c.2.1 (4 * b.toInt.toNat)) (Int32.ofNat j)
abbrev sBa (O : Nat → Int32) (x : Nat) (o : Int32) : Prop := ∀ k : Nat, k < 10 → (sGn (O k) o (Int32.ofNat k)).toInt ≤ (sGn (O x) o (Int32.ofNat x)).toInt
abbrev sRk (O1 O2 : Nat → Int32) (k : Nat) : Prop := sBa O1 (k / 10) (O2 (k % 10)) ∧ sBa O2 (k % 10) (O1 (k / 10))
def sRc (O1 O2 : Nat → Int32) : Nat → Nat
  | 0 => 0
  | k + 1 => if sRk O1 O2 k then sRc O1 O2 k + 1 else sRc O1 O2 k
def sRi (O1 O2 : Nat → Int32) (i : Int) : Nat → Int
  | 0 => -1
  | k + 1 => if sRi O1 O2 i k = -1 ∧ sRk O1 O2 k ∧ (sRc O1 O2 k : Int) = i then (k : Int) else sRi O1 O2 i k
def sV_res (nb np : Int) (c : zK3) (S : zS) (lw : Option ((Int → Int) × Int)) (b o p i : Int32) : Int := if sTwo nb np b o p ∧ -1 ≤ i.toInt then (if i.toInt = -1 then (sRc (sRow c S lw p b) (sRow c S lw p o) 100 : Int) else sRi (sRow c S lw p b) (sRow c S lw p o) i.toInt 100) else -1
theorem sRi_s {O1 O2 : Nat → Int32} {i : Int} {k : Nat} (h : ¬ sRi O1 O2 i k = -1) : ∀ j : Nat, sRi O1 O2 i (k + j) = sRi O1 O2 i k := by
  intro j
  induction j with
  | zero => rfl
  | succ j ih =>
    show (if sRi O1 O2 i (k + j) = -1 ∧ sRk O1 O2 (k + j) ∧ (sRc O1 O2 (k + j) : Int) = i then ((k + j : Nat) : Int) else sRi O1 O2 i (k + j)) = _
    rw [if_neg (fun z => h (ih.symm.trans z.1))]
    exact ih
def zRt (O1 O2 : Nat → Int32) (i : Int) (n : Int32) (k : Nat) : Prop := n.toInt = (sRc O1 O2 k : Int) ∧ (0 ≤ i → sRi O1 O2 i k = -1)
theorem zRt_0 {O1 O2 : Nat → Int32} {i : Int} : zRt O1 O2 i 0 0 := ⟨by show (0 : Int32).toInt = ((0 : Nat) : Int); decide, fun _ => rfl⟩
theorem sRc_b {O1 O2 : Nat → Int32} : ∀ k : Nat, sRc O1 O2 k ≤ k := by
  intro k
  induction k with
  | zero => exact Nat.le_refl _
  | succ k ih =>
    show (if sRk O1 O2 k then sRc O1 O2 k + 1 else sRc O1 O2 k) ≤ k + 1
    by_cases q : sRk O1 O2 k
    · rw [if_pos q]
      omega
    · rw [if_neg q]
      omega
theorem zRtN {O1 O2 : Nat → Int32} {i : Int} {n : Int32} {k k' : Nat} (h : zRt O1 O2 i n k) (hk : k' = k + 1) (hn : ¬ sRk O1 O2 k) : zRt O1 O2 i n k' := by
  rw [hk]
  refine ⟨h.1.trans ?_, fun z => ?_⟩
  · show (sRc O1 O2 k : Int) = ((if sRk O1 O2 k then sRc O1 O2 k + 1 else sRc O1 O2 k : Nat) : Int)
    rw [if_neg hn]
  · exact (if_neg (fun q => hn q.2.1)).trans (h.2 z)
theorem zRtY {O1 O2 : Nat → Int32} {i : Int} {n n' : Int32} {k k' : Nat} (h : zRt O1 O2 i n k) (hk : k' = k + 1) (hy : sRk O1 O2 k) (hi : ¬ n.toInt = i) (hn : n'.toInt = n.toInt + 1) : zRt O1 O2 i n' k' := by
  rw [hk]
  have a := h.1
  refine ⟨hn.trans ?_, fun z => ?_⟩
  · show n.toInt + 1 = ((if sRk O1 O2 k then sRc O1 O2 k + 1 else sRc O1 O2 k : Nat) : Int)
    rw [if_pos hy]
    omega
  · exact (if_neg (fun q => hi (a.trans q.2.2))).trans (h.2 z)
theorem zRtR {O1 O2 : Nat → Int32} {i : Int} {n : Int32} {k : Nat} (h : zRt O1 O2 i n k) (hy : sRk O1 O2 k) (hi : n.toInt = i) (h0 : 0 ≤ i) (hk : k < 100) : sRi O1 O2 i 100 = (k : Int) := by
  have e : sRi O1 O2 i (k + 1) = (k : Int) := if_pos ⟨h.2 h0, hy, h.1.symm.trans hi⟩
  have z := sRi_s (O1 := O1) (O2 := O2) (i := i) (k := k + 1) (by rw [e]; omega) (100 - (k + 1))
  rw [show k + 1 + (100 - (k + 1)) = 100 by omega, e] at z
  exact z
theorem zk10 {x y : Int32} {k : Nat} (hx : 0 ≤ x.toInt) (hy : 0 ≤ y.toInt ∧ y.toInt ≤ 9) (hk : (k : Int) = 10 * x.toInt + y.toInt) : k / 10 = x.toInt.toNat ∧ k % 10 = y.toInt.toNat := by omega
theorem sBa_i {O : Nat → Int32} {x o : Int32} (hx : 0 ≤ x.toInt) : (∀ k : Int32, 0 ≤ k.toInt → k.toInt ≤ 9 → (sGn (O k.toInt.toNat) o k).toInt ≤ (sGn (O x.toInt.toNat) o x).toInt) ↔ sBa O x.toInt.toNat o := by
  constructor
  · intro h k hk
    have e : (Int32.ofNat k).toInt = (k : Int) := nI_toInt (by omega)
    have z := h (Int32.ofNat k) (by omega) (by omega)
    rw [e, show ((k : Int)).toNat = k by omega] at z
    rw [← zk32 hx]
    exact z
  · intro h k h0 h9
    have z := h k.toInt.toNat (by omega)
    rw [← zk32 h0, ← zk32 hx] at z
    exact z
def zBa (O : Nat → Int32) (x o k : Int32) : Prop := ∀ j : Nat, (j : Int) < k.toInt → (sGn (O j) o (Int32.ofNat j)).toInt ≤ (sGn (O x.toInt.toNat) o x).toInt
theorem zBa_0 {O : Nat → Int32} {x o : Int32} : zBa O x o 0 := fun j hj => by
  have n0 : (0 : Int32).toInt = 0 := by decide
  omega
theorem zBa_s {O : Nat → Int32} {x o k k' g h : Int32} (z : zBa O x o k) (h0 : 0 ≤ k.toInt) (hk : k'.toInt = k.toInt + 1) (eg : g = sGn (O k.toInt.toNat) o k) (eh : h = sGn (O x.toInt.toNat) o x) (hle : g.toInt ≤ h.toInt) : zBa O x o k' := by
  intro j hj
  by_cases q : j = k.toInt.toNat
  · rw [q, ← zk32 h0, ← eg, ← eh]
    exact hle
  · exact z j (by omega)
theorem zBa_y {O : Nat → Int32} {x o k : Int32} (z : zBa O x o k) (hk : 10 ≤ k.toInt) (hx : 0 ≤ x.toInt) : sBa O x.toInt.toNat o := fun j hj => by
  rw [← zk32 hx]
  exact z j (by omega)
theorem zBa_n {O : Nat → Int32} {x o k g h : Int32} (h0 : 0 ≤ k.toInt) (h9 : k.toInt ≤ 9) (hx : 0 ≤ x.toInt) (eg : g = sGn (O k.toInt.toNat) o k) (eh : h = sGn (O x.toInt.toNat) o x) (hlt : h.toInt < g.toInt) : ¬ sBa O x.toInt.toNat o := fun z => by
  have y := z k.toInt.toNat (by omega)
  rw [← zk32 h0, ← zk32 hx, ← eg, ← eh] at y
  omega
def zAn (B : Nat → Int32) : Nat → Int32
  | 0 => 0
  | k + 1 => if (B (k + 1)).toInt < (B (zAn B k).toInt.toNat).toInt then Int32.ofNat (k + 1) else zAn B k
theorem zAn_b {B : Nat → Int32} : ∀ k : Nat, k ≤ 99 → 0 ≤ (zAn B k).toInt ∧ (zAn B k).toInt ≤ (k : Int) := by
  intro k
  induction k with
  | zero => intro _; show 0 ≤ (0 : Int32).toInt ∧ (0 : Int32).toInt ≤ ((0 : Nat) : Int); decide
  | succ k ih =>
    intro hk
    have z := ih (by omega)
    unfold zAn
    by_cases q : (B (k + 1)).toInt < (B (zAn B k).toInt.toNat).toInt
    · have y : (Int32.ofNat (k + 1)).toInt = ((k + 1 : Nat) : Int) := nI_toInt (by omega)
      rw [if_pos q, y]
      omega
    · rw [if_neg q]
      omega
theorem zAn_c {B B' : Nat → Int32} : ∀ k : Nat, k ≤ 99 → (∀ j : Nat, j ≤ k → B j = B' j) → zAn B k = zAn B' k := by
  intro k
  induction k with
  | zero => intro _ _; rfl
  | succ k ih =>
    intro hk h
    have e := ih (by omega) (fun j hj => h j (by omega))
    have b := zAn_b (B := B') k (by omega)
    unfold zAn
    rw [e, h (k + 1) (Nat.le_refl _), h (zAn B' k).toInt.toNat (by omega)]
theorem zAnS {B : Nat → Int32} {i i' x y u v : Int32} (h : x = zAn B (i.toInt.toNat - 1)) (h1 : 1 ≤ i.toInt) (hi : i'.toInt = i.toInt + 1) (hu : u = B i.toInt.toNat) (hv : v = B x.toInt.toNat) (hc : (u.toInt < v.toInt ∧ y = i) ∨ (v.toInt ≤ u.toInt ∧ y = x)) : y = zAn B (i'.toInt.toNat - 1) := by
  obtain ⟨k, hk⟩ : ∃ k : Nat, i.toInt.toNat = k + 1 := ⟨i.toInt.toNat - 1, by omega⟩
  rw [hk, Nat.add_sub_cancel] at h
  rw [show i'.toInt.toNat - 1 = k + 1 by omega]
  unfold zAn
  rw [← h, ← hv, ← hk, ← hu, ← zk32 (show 0 ≤ i.toInt by omega)]
  rcases hc with ⟨a, b⟩ | ⟨a, b⟩
  · rw [if_pos a]
    exact b
  · rw [if_neg (by omega)]
    exact b
def sPl (c : zK3) (S : zS) (lw : Option ((Int → Int) × Int)) : Nat → Int32
  | 0 => 0
  | k + 1 => if (sLi c S lw (Int32.ofNat k)).toInt < 5 then sPl c S lw k ||| (1 <<< (Int32.ofNat k &&& 31)) else sPl c S lw k
theorem zPlY {c : zK3} {S : zS} {lw : Option ((Int → Int) × Int)} {i i' x x' s u : Int32} (h : x = sPl c S lw i.toInt.toNat) (h0 : 0 ≤ i.toInt) (hi : i'.toInt = i.toInt + 1) (hu : u = sLi c S lw i) (hc : u.toInt < 5) (es : s = 1 <<< (i &&& 31)) (e : x' = x ||| s) : x' = sPl c S lw i'.toInt.toNat := by
  rw [show i'.toInt.toNat = i.toInt.toNat + 1 by omega]
  unfold sPl
  rw [← zk32 h0, ← hu, if_pos hc, e, es, h]
theorem zPlN {c : zK3} {S : zS} {lw : Option ((Int → Int) × Int)} {i i' x u : Int32} (h : x = sPl c S lw i.toInt.toNat) (h0 : 0 ≤ i.toInt) (hi : i'.toInt = i.toInt + 1) (hu : u = sLi c S lw i) (hc : 5 ≤ u.toInt) : x = sPl c S lw i'.toInt.toNat := by
  rw [show i'.toInt.toNat = i.toInt.toNat + 1 by omega]
  unfold sPl
  rw [← zk32 h0, ← hu, if_neg (by omega)]
  exact h
def zLie (B P : Nat → Int32) : Nat → Int32
  | 0 => 0
  | k + 1 => zLie B P k + sAb (P (4 * k + 2) - B (4 * (P (4 * k)).toInt.toNat))
theorem zLieS {B P : Nat → Int32} {i i' x d a y : Int32} (h : x = zLie B P i.toInt.toNat) (h0 : 0 ≤ i.toInt) (hi : i'.toInt = i.toInt + 1) (hd : d = P (4 * i.toInt.toNat + 2) - B (4 * (P (4 * i.toInt.toNat)).toInt.toNat)) (ea : a = if 0 ≤ d then d else 0 - d) (e : y = x + a) : y = zLie B P i'.toInt.toNat := by
  rw [show i'.toInt.toNat = i.toInt.toNat + 1 by omega]
  unfold zLie sAb
  rw [← h, ← hd, e, ea]
theorem zLie_c {B B' P P' : Nat → Int32} : ∀ {k : Nat}, (∀ i : Nat, i < 4 * k → P i = P' i) → (∀ i : Nat, i < k → B (4 * (P' (4 * i)).toInt.toNat) = B' (4 * (P' (4 * i)).toInt.toNat)) → zLie B P k = zLie B' P' k := by
  intro k
  induction k with
  | zero => intro _ _; rfl
  | succ k ih =>
    intro h hB
    unfold zLie
    rw [h (4 * k) (by omega), h (4 * k + 2) (by omega), hB k (by omega), ih (fun i hi => h i (by omega)) (fun i hi => hB i (by omega))]
theorem zLie_s {nb np : Int} {c : zK3} {S : zS} {fr fb fp P : Nat → Int32} {n : Int32} (hc : zCn fr fb fp nb np c) (hb : zSb nb np S) (hn : S.2.2.2.1.2.2 = n) (hP : ∀ j : Nat, j < 4 * n.toInt.toNat → P j = S.2.2.2.2 j) : zLie fb P n.toInt.toNat = zLie c.2.1 S.2.2.2.2 S.2.2.2.1.2.2.toInt.toNat := by
  rw [hn]
  exact zLie_c hP (fun i hi => hc.2.1 _ (by have z := (hb.2.2.2.2.2 i (by rw [hn]; omega)).1; omega))
def sV_mos (nb np : Int) (c : zK3) (S : zS) (lw : Option ((Int → Int) × Int)) (w : Int32) : Int32 := if nb ≤ 0 then -1 else if w.toInt = 0 then sPl c S lw nb.toNat else if w.toInt = 1 then zXm (fun j => c.2.1 (4 * j + 1)) (nb.toNat - 1) else if w.toInt = 2 then zXm (fun j => c.2.1 (4 * j)) (nb.toNat - 1) else if w.toInt = 3 then zAn (fun j => c.2.2 (4 * j + 1)) (np.toNat - 1) else if w.toInt = 4 then zLie c.2.1 S.2.2.2.2 S.2.2.2.1.2.2.toInt.toNat else -1
theorem sBa_c {A O : Nat → Int32} (h : ∀ j : Nat, j < 10 → A j = O j) {x : Nat} (hx : x < 10) {o : Int32} : sBa A x o ↔ sBa O x o := by
  constructor
  · intro z k hk
    have y := z k hk
    rw [h k hk, h x hx] at y
    exact y
  · intro z k hk
    have y := z k hk
    rw [h k hk, h x hx]
    exact y
theorem sRk_c {A1 A2 O1 O2 : Nat → Int32} (h1 : ∀ j : Nat, j < 10 → A1 j = O1 j) (h2 : ∀ j : Nat, j < 10 → A2 j = O2 j) {k : Nat} (hk : k < 100) : sRk A1 A2 k ↔ sRk O1 O2 k := by
  have a : k / 10 < 10 := by omega
  have b : k % 10 < 10 := by omega
  constructor
  · intro z
    have z1 := (sBa_c h1 a).mp z.1
    have z2 := (sBa_c h2 b).mp z.2
    rw [h2 _ b] at z1
    rw [h1 _ a] at z2
    exact ⟨z1, z2⟩
  · intro z
    have z1 := (sBa_c h1 a).mpr z.1
    have z2 := (sBa_c h2 b).mpr z.2
    rw [← h2 _ b] at z1
    rw [← h1 _ a] at z2
    exact ⟨z1, z2⟩
theorem sRc_c {A1 A2 O1 O2 : Nat → Int32} (h1 : ∀ j : Nat, j < 10 → A1 j = O1 j) (h2 : ∀ j : Nat, j < 10 → A2 j = O2 j) : ∀ k : Nat, k ≤ 100 → sRc A1 A2 k = sRc O1 O2 k := by
  intro k
  induction k with
  | zero => intro _; rfl
  | succ k ih =>
    intro hk
    have e := ih (by omega)
    have i := sRk_c h1 h2 (k := k) (by omega)
    show (if sRk A1 A2 k then sRc A1 A2 k + 1 else sRc A1 A2 k) = (if sRk O1 O2 k then sRc O1 O2 k + 1 else sRc O1 O2 k)
    by_cases q : sRk O1 O2 k
    · rw [if_pos q, if_pos (i.mpr q), e]
    · rw [if_neg q, if_neg (fun z => q (i.mp z)), e]
theorem sRi_c {A1 A2 O1 O2 : Nat → Int32} {x : Int} (h1 : ∀ j : Nat, j < 10 → A1 j = O1 j) (h2 : ∀ j : Nat, j < 10 → A2 j = O2 j) : ∀ k : Nat, k ≤ 100 → sRi A1 A2 x k = sRi O1 O2 x k := by
  intro k
  induction k with
  | zero => intro _; rfl
  | succ k ih =>
    intro hk
    have e := ih (by omega)
    have i := sRk_c h1 h2 (k := k) (by omega)
    have c := sRc_c h1 h2 k (by omega)
    show (if sRi A1 A2 x k = -1 ∧ sRk A1 A2 k ∧ (sRc A1 A2 k : Int) = x then (k : Int) else sRi A1 A2 x k) = (if sRi O1 O2 x k = -1 ∧ sRk O1 O2 k ∧ (sRc O1 O2 k : Int) = x then (k : Int) else sRi O1 O2 x k)
    rw [e, c]
    by_cases q : sRi O1 O2 x k = -1 ∧ sRk O1 O2 k ∧ (sRc O1 O2 k : Int) = x
    · rw [if_pos q, if_pos ⟨q.1, i.mpr q.2.1, q.2.2⟩]
    · rw [if_neg q, if_neg (fun z => q ⟨z.1, i.mp z.2.1, z.2.2⟩)]
theorem zRk_i {A1 A2 : Nat → Int32} {x y a b : Int32} {k : Nat} (hx : 0 ≤ x.toInt) (hy : 0 ≤ y.toInt ∧ y.toInt ≤ 9) (hk : k = 10 * x.toInt.toNat + y.toInt.toNat) (ea : a = A2 y.toNatClampNeg) (eb : b = A1 x.toNatClampNeg) : sRk A1 A2 k ↔ (sBa A1 x.toInt.toNat a ∧ sBa A2 y.toInt.toNat b) := by
  have e1 : k / 10 = x.toInt.toNat := by omega
  have e2 : k % 10 = y.toInt.toNat := by omega
  have ya : y.toNatClampNeg = y.toInt.toNat := rfl
  have xb : x.toNatClampNeg = x.toInt.toNat := rfl
  unfold sRk
  rw [e1, e2, ea, eb, ya, xb]
theorem sGm_r {c : zK3} {S : zS} {lw : Option ((Int → Int) × Int)} {p b o x y : Int32} (hx : 0 ≤ x.toInt) (hy : 0 ≤ y.toInt) : sGm c S lw p b o x y = sGn (sRow c S lw p b x.toInt.toNat) (sRow c S lw p o y.toInt.toNat) x := by
  unfold sGm sRow
  rw [← zk32 hx, ← zk32 hy]
theorem sLk_r {nb np : Int} {c : zK3} {T : zT} {fr fb fp N fC fV fK fT fS fU : Nat → Int32} {ho p b f y r : Int32} {lw : Option ((Int → Int) × Int)} (hc : zCn fr fb fp nb np c) (hk : zKo nb np c T) (hA : ∀ i : Nat, (i : Int) < np → N (6 + i) = T.1.2.1 i) (hM : T.1.2.2.2.1.2.1 = N 15) (hp : 0 ≤ p.toInt ∧ p.toInt < np) (hb : 0 ≤ b.toInt ∧ b.toInt < nb) (hf : 0 ≤ f.toInt ∧ f.toInt ≤ 9) (hy : 0 ≤ y.toInt ∧ y.toInt ≤ 9) (hL : zLwR ho fC fV fK fT fS fU lw) (F0 : ∀ lw : Option ((Int → Int) × Int), zLwR ho fC fV fK fT fS fU lw → zB5 f (fb (4 * b.toInt.toNat + 2)) y (fp (4 * p.toInt.toNat)) (N (6 + p.toInt.toNat)) (N 15) → r = zLkv lw f (fb (4 * b.toInt.toNat + 2)) y (fp (4 * p.toInt.toNat)) (N (6 + p.toInt.toNat)) (N 15)) : r = sLk c T.1 lw p b f y := by
  have h5 := zKo_b6 hk hp hb (f := f) (y := y) (by unfold zB6; omega) (by unfold zB6; omega)
  rw [← hc.2.2 (4 * p.toInt.toNat) (by omega), ← hc.2.1 (4 * b.toInt.toNat + 2) (by omega), ← hA p.toInt.toNat (by omega), hM] at h5
  unfold sLk
  rw [F0 lw hL h5, hc.2.2 (4 * p.toInt.toNat) (by omega), hc.2.1 (4 * b.toInt.toNat + 2) (by omega), hA p.toInt.toNat (by omega), hM]
