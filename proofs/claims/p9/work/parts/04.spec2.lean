/-! the tape, as the class reads it -/
def zTy (n : Int32) (f : Nat → Int32) : Prop := ∀ j : Nat, (j : Int) < n.toInt → 1 ≤ (f j).toInt ∧ (f j).toInt ≤ 255
theorem sB_at {f : Nat → Int32} {n a v : Int32} (e : v = f a.toNatClampNeg) (h0 : 0 ≤ a.toInt) (h : a.toInt < n.toInt) : sB f n.toInt a.toInt = v.toInt := by
  unfold sB
  rw [if_pos ⟨h0, h⟩, e]
  rfl
theorem sB_end {f : Nat → Int32} {n : Int32} {a : Int} (h : n.toInt ≤ a) : sB f n.toInt a = -1 := by
  unfold sB
  rw [if_neg (by omega)]
/-- what peek answers -/
def zPK (f : Nat → Int32) (n a r u : Int32) : Prop := sk (sB f n.toInt) n.toInt a.toInt = u.toInt ∧ ((sB f n.toInt u.toInt = r.toInt ∧ 1 ≤ r.toInt ∧ u.toInt < n.toInt) ∨ (sB f n.toInt u.toInt = -1 ∧ r.toInt = 0 ∧ n.toInt ≤ u.toInt))
theorem zpkS {f : Nat → Int32} {n m v m' : Int32} {X : Int} (h : X = sk (sB f n.toInt) n.toInt m.toInt) (hc : m.toInt < n.toInt) (h0 : 0 ≤ m.toInt) (e : v = f m.toNatClampNeg) (hv : v.toInt = 32) (i : m'.toInt = m.toInt + 1) : X = sk (sB f n.toInt) n.toInt m'.toInt := by
  rw [h, i]
  exact sk_go hc (by rw [sB_at e h0 hc]; exact hv)
theorem zpkA {f : Nat → Int32} {n a m : Int32} (h : sk (sB f n.toInt) n.toInt a.toInt = sk (sB f n.toInt) n.toInt m.toInt) (hc : n.toInt ≤ m.toInt) : zPK f n a 0 m := by
  refine ⟨?_, Or.inr ⟨sB_end hc, by decide, hc⟩⟩
  rw [h]
  exact sk_st (fun q => by omega)
theorem zpkB {f : Nat → Int32} {n a m v w : Int32} (h : sk (sB f n.toInt) n.toInt a.toInt = sk (sB f n.toInt) n.toInt m.toInt) (h0 : 0 ≤ m.toInt) (hc : m.toInt < n.toInt) (e : v = f m.toNatClampNeg) (hv : ¬ v.toInt = 32) (e' : w = f m.toNatClampNeg) (hty : zTy n f) : zPK f n a w m := by
  have h1 := sB_at e h0 hc
  refine ⟨?_, Or.inl ⟨sB_at e' h0 hc, ?_, hc⟩⟩
  · rw [h]
    exact sk_st (fun q => hv (by rw [← h1]; exact q.2))
  · rw [e']
    exact (hty _ (by show (m.toInt.toNat : Int) < n.toInt; omega)).1
/-- what takes answers -/
def zTk (f : Nat → Int32) (n a c r u : Int32) : Prop := (r.toInt = 1 ∧ u.toInt = sk (sB f n.toInt) n.toInt a.toInt + 1 ∧ sB f n.toInt (sk (sB f n.toInt) n.toInt a.toInt) = c.toInt ∧ u.toInt ≤ n.toInt) ∨ (r.toInt = 0 ∧ u.toInt = sk (sB f n.toInt) n.toInt a.toInt ∧ ¬ sB f n.toInt (sk (sB f n.toInt) n.toInt a.toInt) = c.toInt)
theorem ztkY {f : Nat → Int32} {n a c r u u' : Int32} (h : zPK f n a r u) (hc : r.toInt = c.toInt) (h1 : 1 ≤ c.toInt) (i : u'.toInt = u.toInt + 1) : zTk f n a c 1 u' := by
  obtain ⟨e, q | q⟩ := h
  · exact Or.inl ⟨by decide, by omega, by rw [e]; omega, by omega⟩
  · exfalso; omega
theorem ztkN {f : Nat → Int32} {n a c r u : Int32} (h : zPK f n a r u) (hc : ¬ r.toInt = c.toInt) (h1 : 1 ≤ c.toInt) : zTk f n a c 0 u := by
  obtain ⟨e, q | q⟩ := h
  · exact Or.inr ⟨by decide, by omega, by rw [e]; omega⟩
  · exact Or.inr ⟨by decide, by omega, by rw [e]; omega⟩
/-- digits from a to b -/
def zDg (f : Nat → Int32) (n a b : Int32) : Prop := ∀ j : Int, a.toInt ≤ j → j < b.toInt → 48 ≤ sB f n.toInt j ∧ sB f n.toInt j ≤ 57
theorem zDg0 {f : Nat → Int32} {n a : Int32} : zDg f n a a := fun j h1 h2 => by omega
theorem zDgS {f : Nat → Int32} {n a b b' v w : Int32} (h : zDg f n a b) (h0 : 0 ≤ b.toInt) (hc : b.toInt < n.toInt) (e : v = f b.toNatClampNeg) (e' : w = f b.toNatClampNeg) (c1 : 48 ≤ v.toInt) (c2 : w.toInt ≤ 57) (i : b'.toInt = b.toInt + 1) : zDg f n a b' := fun j h1 h2 => by
  by_cases q : j < b.toInt
  · exact h j h1 q
  · have e1 := sB_at e h0 hc
    have e2 := sB_at e' h0 hc
    rw [show j = b.toInt by omega]
    omega
theorem zndE {f : Nat → Int32} {n b : Int32} (h : n.toInt ≤ b.toInt) : ¬ (48 ≤ sB f n.toInt b.toInt ∧ sB f n.toInt b.toInt ≤ 57) := by
  rw [sB_end h]
  omega
theorem zndL {f : Nat → Int32} {n b v : Int32} (e : v = f b.toNatClampNeg) (h0 : 0 ≤ b.toInt) (hc : b.toInt < n.toInt) (h : v.toInt < 48) : ¬ (48 ≤ sB f n.toInt b.toInt ∧ sB f n.toInt b.toInt ≤ 57) := by
  rw [sB_at e h0 hc]
  omega
theorem zndH {f : Nat → Int32} {n b v : Int32} (e : v = f b.toNatClampNeg) (h0 : 0 ≤ b.toInt) (hc : b.toInt < n.toInt) (h : 57 < v.toInt) : ¬ (48 ≤ sB f n.toInt b.toInt ∧ sB f n.toInt b.toInt ≤ 57) := by
  rw [sB_at e h0 hc]
  omega
/-- a number of a law -/
def zN4 (f : Nat → Int32) (n a r u : Int32) : Prop := (r.toInt = -1 ∧ sNum (sB f n.toInt) a.toInt = (0, u.toInt)) ∨ (0 ≤ r.toInt ∧ sNum (sB f n.toInt) a.toInt = (1, u.toInt))
theorem zn4A {f : Nat → Int32} {n a b v w : Int32} (h : zDg f n a b) (hb : b.toInt = a.toInt + 4) (h0 : 0 ≤ b.toInt) (hc : b.toInt < n.toInt) (e : v = f b.toNatClampNeg) (e' : w = f b.toNatClampNeg) (c1 : 48 ≤ v.toInt) (c2 : w.toInt ≤ 57) : zN4 f n a (-1) b := by
  have e1 := sB_at e h0 hc
  have e2 := sB_at e' h0 hc
  have d0 := h a.toInt (by omega) (by omega)
  have d1 := h (a.toInt + 1) (by omega) (by omega)
  have d2 := h (a.toInt + 2) (by omega) (by omega)
  have d3 := h (a.toInt + 3) (by omega) (by omega)
  rw [hb] at e1 e2
  refine Or.inl ⟨by decide, ?_⟩
  unfold sNum
  rw [if_neg (fun q => q d0), if_neg (fun q => q d1), if_neg (fun q => q d2), if_neg (fun q => q d3), if_neg (fun q => q ⟨by omega, by omega⟩), hb]
theorem zn4C {f : Nat → Int32} {n a b : Int32} (hn : ¬ (48 ≤ sB f n.toInt b.toInt ∧ sB f n.toInt b.toInt ≤ 57)) (hb : b.toInt = a.toInt) : zN4 f n a (-1) b := by
  rw [hb] at hn
  refine Or.inl ⟨by decide, ?_⟩
  unfold sNum
  rw [if_pos hn, hb]
theorem zn4B {f : Nat → Int32} {n a b r h : Int32} (hd : zDg f n a b) (hn : ¬ (48 ≤ sB f n.toInt b.toInt ∧ sB f n.toInt b.toInt ≤ 57)) (hb : b.toInt = a.toInt + h.toInt) (h1 : 1 ≤ h.toInt) (h4 : h.toInt ≤ 4) (hr : 0 ≤ r.toInt) : zN4 f n a r b := by
  refine Or.inr ⟨hr, ?_⟩
  unfold sNum
  have d0 := hd a.toInt (by omega) (by omega)
  rw [if_neg (fun q => q d0)]
  rcases (show b.toInt = a.toInt + 1 ∨ b.toInt = a.toInt + 2 ∨ b.toInt = a.toInt + 3 ∨ b.toInt = a.toInt + 4 by omega) with e | e | e | e
  · rw [e] at hn
    rw [if_pos hn, e]
  · have d1 := hd (a.toInt + 1) (by omega) (by omega)
    rw [e] at hn
    rw [if_neg (fun q => q d1), if_pos hn, e]
  · have d1 := hd (a.toInt + 1) (by omega) (by omega)
    have d2 := hd (a.toInt + 2) (by omega) (by omega)
    rw [e] at hn
    rw [if_neg (fun q => q d1), if_neg (fun q => q d2), if_pos hn, e]
  · have d1 := hd (a.toInt + 1) (by omega) (by omega)
    have d2 := hd (a.toInt + 2) (by omega) (by omega)
    have d3 := hd (a.toInt + 3) (by omega) (by omega)
    rw [e] at hn
    rw [if_neg (fun q => q d1), if_neg (fun q => q d2), if_neg (fun q => q d3), if_pos hn, e]
/-- a number of a court, bounded by hi; its value -/
def sNm2 (g : Int → Int) (hi p : Int) : Int × Int :=
  if ¬ (48 ≤ g p ∧ g p ≤ 57) then (0, p) else
  if ¬ (48 ≤ g (p + 1) ∧ g (p + 1) ≤ 57) then (if g p - 48 ≤ hi then (1, p + 1) else (0, p)) else
  if 48 ≤ g (p + 2) ∧ g (p + 2) ≤ 57 then (0, p + 2) else
  if 10 * (g p - 48) + (g (p + 1) - 48) ≤ hi then (1, p + 2) else (0, p + 1)
def sVl2 (g : Int → Int) (p : Int) : Int := if ¬ (48 ≤ g (p + 1) ∧ g (p + 1) ≤ 57) then g p - 48 else 10 * (g p - 48) + (g (p + 1) - 48)
def zN2 (f : Nat → Int32) (n a hi r u : Int32) : Prop := (r.toInt = -1 ∧ sNm2 (sB f n.toInt) hi.toInt a.toInt = (0, u.toInt)) ∨ (0 ≤ r.toInt ∧ r.toInt = sVl2 (sB f n.toInt) a.toInt ∧ sNm2 (sB f n.toInt) hi.toInt a.toInt = (1, u.toInt))
def zV2 (f : Nat → Int32) (n a h v : Int32) : Prop := (h.toInt = 0 → v.toInt = 0) ∧ (h.toInt = 1 → v.toInt = sB f n.toInt a.toInt - 48) ∧ (h.toInt = 2 → v.toInt = 10 * (sB f n.toInt a.toInt - 48) + (sB f n.toInt (a.toInt + 1) - 48))
theorem zV20 {f : Nat → Int32} {n a : Int32} : zV2 f n a 0 0 := ⟨fun _ => by decide, fun h => absurd h (by decide), fun h => absurd h (by decide)⟩
theorem zV2S {f : Nat → Int32} {n a b h h' v v' x : Int32} (q : zV2 f n a h v) (hb : b.toInt = a.toInt + h.toInt) (h0 : 0 ≤ h.toInt) (h2 : ¬ h.toInt = 2) (h3 : h.toInt ≤ 2) (b0 : 0 ≤ b.toInt) (hc : b.toInt < n.toInt) (e : x = f b.toNatClampNeg) (ih : h'.toInt = h.toInt + 1) (iv : v'.toInt = 10 * v.toInt + x.toInt - 48) : zV2 f n a h' v' := by
  have e1 := sB_at e b0 hc
  obtain ⟨q0, q1, q2⟩ := q
  rcases (show h.toInt = 0 ∨ h.toInt = 1 by omega) with z | z
  · have := q0 z
    rw [show b.toInt = a.toInt by omega] at e1
    exact ⟨fun y => by omega, fun y => by omega, fun y => by omega⟩
  · have := q1 z
    rw [show b.toInt = a.toInt + 1 by omega] at e1
    exact ⟨fun y => by omega, fun y => by omega, fun y => by omega⟩
theorem zn2A {f : Nat → Int32} {n a b hi v w : Int32} (h : zDg f n a b) (hb : b.toInt = a.toInt + 2) (h0 : 0 ≤ b.toInt) (hc : b.toInt < n.toInt) (e : v = f b.toNatClampNeg) (e' : w = f b.toNatClampNeg) (c1 : 48 ≤ v.toInt) (c2 : w.toInt ≤ 57) : zN2 f n a hi (-1) b := by
  have e1 := sB_at e h0 hc
  have e2 := sB_at e' h0 hc
  have d0 := h a.toInt (by omega) (by omega)
  have d1 := h (a.toInt + 1) (by omega) (by omega)
  rw [hb] at e1 e2
  refine Or.inl ⟨by decide, ?_⟩
  unfold sNm2
  rw [if_neg (fun q => q d0), if_neg (fun q => q d1), if_pos ⟨by omega, by omega⟩, hb]
theorem zn2C {f : Nat → Int32} {n a b hi : Int32} (hn : ¬ (48 ≤ sB f n.toInt b.toInt ∧ sB f n.toInt b.toInt ≤ 57)) (hb : b.toInt = a.toInt) : zN2 f n a hi (-1) b := by
  rw [hb] at hn
  refine Or.inl ⟨by decide, ?_⟩
  unfold sNm2
  rw [if_pos hn, hb]
theorem zn2B {f : Nat → Int32} {n a b r h hi : Int32} (hd : zDg f n a b) (hn : ¬ (48 ≤ sB f n.toInt b.toInt ∧ sB f n.toInt b.toInt ≤ 57)) (hb : b.toInt = a.toInt + h.toInt) (h1 : 1 ≤ h.toInt) (h4 : h.toInt ≤ 2) (hv : zV2 f n a h r) (hr : r.toInt ≤ hi.toInt) : zN2 f n a hi r b := by
  obtain ⟨-, q1, q2⟩ := hv
  have d0 := hd a.toInt (by omega) (by omega)
  rcases (show h.toInt = 1 ∨ h.toInt = 2 by omega) with z | z
  · have v1 := q1 z
    have e : b.toInt = a.toInt + 1 := by omega
    rw [e] at hn
    refine Or.inr ⟨by omega, by unfold sVl2; rw [if_pos hn]; exact v1, ?_⟩
    unfold sNm2
    rw [if_neg (fun q => q d0), if_pos hn, if_pos (by omega), e]
  · have v1 := q2 z
    have d1 := hd (a.toInt + 1) (by omega) (by omega)
    have e : b.toInt = a.toInt + 2 := by omega
    rw [e] at hn
    refine Or.inr ⟨by omega, by unfold sVl2; rw [if_neg (fun q => q d1)]; exact v1, ?_⟩
    unfold sNm2
    rw [if_neg (fun q => q d0), if_neg (fun q => q d1), if_neg hn, if_pos (by omega), e]
theorem zn2D {f : Nat → Int32} {n a b b' r h hi : Int32} (hd : zDg f n a b) (hn : ¬ (48 ≤ sB f n.toInt b.toInt ∧ sB f n.toInt b.toInt ≤ 57)) (hb : b.toInt = a.toInt + h.toInt) (h1 : 1 ≤ h.toInt) (h4 : h.toInt ≤ 2) (hv : zV2 f n a h r) (hr : hi.toInt < r.toInt) (ib : b'.toInt = b.toInt - 1) : zN2 f n a hi (-1) b' := by
  obtain ⟨-, q1, q2⟩ := hv
  have d0 := hd a.toInt (by omega) (by omega)
  refine Or.inl ⟨by decide, ?_⟩
  unfold sNm2
  rcases (show h.toInt = 1 ∨ h.toInt = 2 by omega) with z | z
  · have v1 := q1 z
    have e : b.toInt = a.toInt + 1 := by omega
    rw [e] at hn
    rw [if_neg (fun q => q d0), if_pos hn, if_neg (by omega), show b'.toInt = a.toInt by omega]
  · have v1 := q2 z
    have d1 := hd (a.toInt + 1) (by omega) (by omega)
    have e : b.toInt = a.toInt + 2 := by omega
    rw [e] at hn
    rw [if_neg (fun q => q d0), if_neg (fun q => q d1), if_neg hn, if_neg (by omega), show b'.toInt = a.toInt + 1 by omega]
def zB4 (h v : Int32) : Prop := 0 ≤ v.toInt ∧ (h.toInt ≤ 0 → v.toInt ≤ 0) ∧ (h.toInt ≤ 1 → v.toInt ≤ 9) ∧ (h.toInt ≤ 2 → v.toInt ≤ 99) ∧ (h.toInt ≤ 3 → v.toInt ≤ 999) ∧ v.toInt ≤ 9999
theorem zB40 : zB4 0 0 := by unfold zB4; decide
theorem zB4b {h v : Int32} (q : zB4 h v) : 0 ≤ v.toInt ∧ v.toInt ≤ 9999 := ⟨q.1, q.2.2.2.2.2⟩
theorem zB4S {h h' v v' x : Int32} (q : zB4 h v) (hz : 0 ≤ h.toInt) (h3 : h.toInt ≤ 3) (d1 : 48 ≤ x.toInt) (d2 : x.toInt ≤ 57) (ih : h'.toInt = h.toInt + 1) (iv : v'.toInt = 10 * v.toInt + x.toInt - 48) : zB4 h' v' := by
  obtain ⟨q0, q1, q2, q3, q4, q5⟩ := q
  have q4 := q4 h3
  refine ⟨by omega, fun z => ?_, fun z => ?_, fun z => ?_, fun z => ?_, by omega⟩
  · omega
  · have := q1 (by omega)
    omega
  · have := q2 (by omega)
    omega
  · have := q3 (by omega)
    omega
def zB2 (h v : Int32) : Prop := 0 ≤ v.toInt ∧ (h.toInt ≤ 0 → v.toInt ≤ 0) ∧ (h.toInt ≤ 1 → v.toInt ≤ 9) ∧ v.toInt ≤ 99
theorem zB20 : zB2 0 0 := by unfold zB2; decide
theorem zB2b {h v : Int32} (q : zB2 h v) : 0 ≤ v.toInt ∧ v.toInt ≤ 99 := ⟨q.1, q.2.2.2⟩
theorem zB2S {h h' v v' x : Int32} (q : zB2 h v) (hz : 0 ≤ h.toInt) (h3 : h.toInt ≤ 1) (d1 : 48 ≤ x.toInt) (d2 : x.toInt ≤ 57) (ih : h'.toInt = h.toInt + 1) (iv : v'.toInt = 10 * v.toInt + x.toInt - 48) : zB2 h' v' := by
  obtain ⟨q0, q1, q2, q3⟩ := q
  have q2 := q2 h3
  refine ⟨by omega, fun z => ?_, fun z => ?_, by omega⟩
  · omega
  · have := q1 (by omega)
    omega
