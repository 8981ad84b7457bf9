theorem zLR_kp {g : Int → Int} {n : Int} {fC fV fK fT fS fU gC gV gK gT gS gU : Nat → Int32} {tx n0 : Nat} (h : zLR g n fC fV fK fT fS fU tx) (w : zLw tx fC fV fK fT fS fU) (ht : tx < n0) (k1 : ∀ j : Nat, j < 520 * n0 → gC j = fC j ∧ gV j = fV j) (k2 : ∀ j : Nat, j < n0 → gK j = fK j) (k3 : ∀ j : Nat, j < 140 * n0 → gT j = fT j ∧ gS j = fS j ∧ gU j = fU j) : zLR g n gC gV gK gT gS gU tx := by
  obtain ⟨a, ⟨D, hD⟩, c⟩ := h
  refine ⟨a, ⟨D, fun q x hq => ?_⟩, by rw [k2 tx ht]; exact c⟩
  have hl : q < (eCs g n).length := by
    by_cases z : q < (eCs g n).length
    · exact z
    · rw [List.getElem?_eq_none (by omega)] at hq
      exact absurd hq (by simp)
  obtain ⟨⟨b1, b2, b3, b4, b5⟩, b6⟩ := hD q x hq
  have w1 := w.1
  have w2 := (w.2 q (by omega)).1
  obtain ⟨r1, r2, r3⟩ := k3 (140 * tx + q) (by omega)
  unfold zCk
  rw [r1, r2, r3]
  exact ⟨⟨b1, b2, b3, zAq_kp b4 b1 (D := 520) (by omega) (fun j hj => k1 j (by omega)), zAq_kp b5 (by omega) (D := 520) (by omega) (fun j hj => k1 j (by omega))⟩, b6⟩
def zAls (lw : Int32) (fC fV fK fT fS fU : Nat → Int32) (tx : Nat → (Int → Int) × Int) : Prop := ∀ n : Nat, (n : Int) < lw.toInt → zLR (tx n).1 (tx n).2 fC fV fK fT fS fU n
def zTup (tx : Nat → (Int → Int) × Int) (k : Nat) (t : (Int → Int) × Int) : Nat → (Int → Int) × Int := fun i => if i = k then t else tx i
theorem zAls_rd {wr ta lw : Int32} {fC fV fD fK fT fS fU : Nat → Int32} {tx : Int32} {gC gV gK gT gS gU : Nat → Int32} {n0 : Nat} {ts : Nat → (Int → Int) × Int} (h : zAls lw gC gV gK gT gS gU ts) (r : zRd wr ta fC fV fD fK fT fS fU tx gC gV gK gT gS gU n0) (a : zAl lw gC gV gK gT gS gU) (hn : lw.toInt ≤ (n0 : Int)) : zAls lw fC fV fK fT fS fU ts := fun n hl => zLR_kp (h n hl) (a.2 n hl) (by omega) r.1.1 r.1.2.1 r.1.2.2
theorem zAls_new {wr ta lw lw' : Int32} {fC fV fD fK fT fS fU : Nat → Int32} {tx : Int32} {gC gV gK gT gS gU : Nat → Int32} {n0 : Nat} {ts : Nat → (Int → Int) × Int} {g : Int → Int} {n D : Int} (h : zAls lw gC gV gK gT gS gU ts) (r : zRd wr ta fC fV fD fK fT fS fU tx gC gV gK gT gS gU n0) (a : zAl lw gC gV gK gT gS gU) (ck : zCks g n fC fV fT fS fU tx.toInt.toNat (eCs g n) D ∧ (fK tx.toInt.toNat).toInt = ((eCs g n).length : Int) ∧ (sCl g n 0).1 = 1) (hn : lw.toInt ≤ (n0 : Int)) (htx : tx.toInt = lw.toInt) (h0 : 0 ≤ lw.toInt) (hl : lw'.toInt = lw.toInt + 1) : zAls lw' fC fV fK fT fS fU (zTup ts lw.toInt.toNat (g, n)) := by
  intro m hm
  unfold zTup
  by_cases q : m = lw.toInt.toNat
  · rw [if_pos q, q, ← htx]
    exact ⟨ck.2.2, ⟨D, ck.1⟩, ck.2.1⟩
  · rw [if_neg q]
    exact zLR_kp (h m (by omega)) (a.2 m (by omega)) (by omega) r.1.1 r.1.2.1 r.1.2.2
theorem zAls_ho {ho lw : Int32} {fC fV fK fT fS fU : Nat → Int32} {ts : Nat → (Int → Int) × Int} (h : zAls lw fC fV fK fT fS fU ts) (h1 : -1 ≤ ho.toInt) (h2 : ho.toInt < lw.toInt) : zLwR ho fC fV fK fT fS fU (zHo1 (ho, ts)) := by
  unfold zHo1
  by_cases q : ho.toInt = -1
  · rw [if_pos q]
    exact q
  · rw [if_neg q]
    exact ⟨by omega, h ho.toInt.toNat (by omega)⟩
theorem zAls_0 {fC fV fK fT fS fU : Nat → Int32} {ts : Nat → (Int → Int) × Int} : zAls 0 fC fV fK fT fS fU ts := fun n hn => by
  rw [show (0 : Int32).toInt = 0 from by decide] at hn
  omega
