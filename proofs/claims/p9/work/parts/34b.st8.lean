def zBg1 (N mB : Nat → Int32) (i : Int32) : Prop := (∀ j : Nat, (j : Int) < i.toInt → N j = mB (4 * j + 3)) ∧ ∀ j : Nat, 6 ≤ j → j < 97 → N j = 0
theorem zBg1_0 {N mB : Nat → Int32} {k : Int32} (h : zZr N k) (hk : 97 ≤ k.toInt) : zBg1 N mB 0 := ⟨fun j hj => by have : (0 : Int32).toInt = 0 := (by decide); omega, fun j _ hj => h j (by omega)⟩
theorem zBg1_s {N N' mB : Nat → Int32} {i i' x v : Int32} (h : zBg1 N mB i) (e : N' = upd N x.toNatClampNeg v) (ev : v = mB (4 * i.toInt.toNat + 3)) (hx : x.toInt = i.toInt) (h0 : 0 ≤ i.toInt) (h5 : i.toInt ≤ 5) (hi : i'.toInt = i.toInt + 1) : zBg1 N' mB i' := by
  have xx : x.toNatClampNeg = i.toInt.toNat := by show x.toInt.toNat = _; omega
  rw [xx] at e
  refine ⟨fun j hj => ?_, fun j h6 hj => by rw [e, pk_un (by omega)]; exact h.2 j h6 hj⟩
  rw [e]
  by_cases q : j = i.toInt.toNat
  · rw [q, pk_us]
    exact ev
  · rw [pk_un q]
    exact h.1 j (by omega)
def zBg2 (N mB mP : Nat → Int32) (nb : Int) (i : Int32) : Prop := (∀ j : Nat, (j : Int) < nb → N j = mB (4 * j + 3)) ∧ (∀ j : Nat, (j : Int) < i.toInt → N (6 + j) = mP (4 * j + 2)) ∧ ∀ j : Nat, 11 ≤ j → j < 97 → N j = 0
theorem zBg2_0 {N mB mP : Nat → Int32} {nb : Int} {i : Int32} (h : zBg1 N mB i) (hn : nb ≤ i.toInt) : zBg2 N mB mP nb 0 := ⟨fun j hj => h.1 j (by omega), fun j hj => by have : (0 : Int32).toInt = 0 := (by decide); omega, fun j h6 hj => h.2 j (by omega) hj⟩
theorem zBg2_s {N N' mB mP : Nat → Int32} {nb : Int} {i i' x v : Int32} (h : zBg2 N mB mP nb i) (e : N' = upd N x.toNatClampNeg v) (ev : v = mP (4 * i.toInt.toNat + 2)) (hx : x.toInt = 6 + i.toInt) (h0 : 0 ≤ i.toInt) (h5 : i.toInt ≤ 4) (hi : i'.toInt = i.toInt + 1) (hn : nb ≤ 6) : zBg2 N' mB mP nb i' := by
  have xx : x.toNatClampNeg = 6 + i.toInt.toNat := by show x.toInt.toNat = _; omega
  rw [xx] at e
  refine ⟨fun j hj => by rw [e, pk_un (by omega)]; exact h.1 j hj, fun j hj => ?_, fun j h6 hj => by rw [e, pk_un (by omega)]; exact h.2.2 j h6 hj⟩
  rw [e]
  by_cases q : j = i.toInt.toNat
  · rw [q, pk_us]
    exact ev
  · rw [pk_un (by omega)]
    exact h.2.1 j (by omega)
theorem zSr_bg {nb np : Int} {c : zK3} {N N' mR mB mP : Nat → Int32} {i x : Int32} (h : zBg2 N mB mP nb i) (hi : np ≤ i.toInt) (e : N' = upd N (14 : Int32).toNatClampNeg x) (ex : x = mR 0) (hc : zCn mR mB mP nb np c) (hn : nb ≤ 6) (hp : np ≤ 5) : zSr nb np (sBeg c) N' := by
  rw [show (14 : Int32).toNatClampNeg = 14 by decide] at e
  have n0 : (0 : Int32).toInt = 0 := by decide
  have z : ∀ j : Nat, 11 ≤ j → j < 97 → ¬ j = 14 → N' j = 0 := fun j h1 h2 h3 => by rw [e, pk_un h3]; exact h.2.2 j h1 h2
  refine ⟨fun j hj => ?_, fun j hj => ?_, ?_, ?_, fun j hj => ?_⟩
  · rw [e, pk_un (by omega), h.1 j hj]
    exact hc.2.1 _ (by omega)
  · rw [e, pk_un (by omega), h.2.1 j (by omega)]
    exact hc.2.2 _ (by omega)
  · rw [z 11 (by decide) (by decide) (by decide), z 12 (by decide) (by decide) (by decide), z 13 (by decide) (by decide) (by decide)]
    show ((0 : Int32), (0 : Int32), (-1 : Int32)) = (0, 0, 0 - 1)
    decide
  · rw [z 15 (by decide) (by decide) (by decide), z 16 (by decide) (by decide) (by decide), e, pk_us, ex, hc.1 0 (by decide)]
    rfl
  · rw [z 16 (by decide) (by decide) (by decide)] at hj
    omega
