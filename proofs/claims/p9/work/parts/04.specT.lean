def sM1 (x : Int32) : Int32 := if 1 < x then x else 1
def sAb (x : Int32) : Int32 := if 0 ≤ x then x else 0 - x
def sFc (c : zK3) (S : zS) (lw : Option ((Int → Int) × Int)) (b f : Int32) (i : Nat) : Int32 := sM1 (1 + c.2.2 (4 * (S.2.2.2.2 (4 * i + 1)).toInt.toNat) - sAb (sShow c S lw (S.2.2.2.2 (4 * i + 1)) b f - S.2.2.2.2 (4 * i + 2)))
abbrev sIs (c : zK3) (S : zS) (b : Int32) (i : Nat) : Prop := (S.2.2.2.2 (4 * i)).toInt = b.toInt ∧ ¬ (c.2.2 (4 * (S.2.2.2.2 (4 * i + 1)).toInt.toNat + 3)).toInt = 3
theorem sFc_mk {c : zK3} {S : zS} {lw : Option ((Int → Int) × Int)} {b f p w sh d a sk x y m : Int32} {i : Nat} (hp : p = S.2.2.2.2 (4 * i + 1)) (hw : w = S.2.2.2.2 (4 * i + 2)) (hs : sh = sShow c S lw p b f) (hk : sk = c.2.2 (4 * p.toInt.toNat)) (ed : d = sh - w) (ea : a = if 0 ≤ d then d else 0 - d) (ex : x = 1 + sk) (ey : y = x - a) (em : m = if 1 < y then y else 1) : m = sFc c S lw b f i := by
  have e1 : a = sAb (sShow c S lw (S.2.2.2.2 (4 * i + 1)) b f - S.2.2.2.2 (4 * i + 2)) := by
    rw [← hp, ← hw, ← hs, ← ed]
    exact ea
  have e2 : y = 1 + c.2.2 (4 * (S.2.2.2.2 (4 * i + 1)).toInt.toNat) - sAb (sShow c S lw (S.2.2.2.2 (4 * i + 1)) b f - S.2.2.2.2 (4 * i + 2)) := by
    rw [← e1, ← hp, ← hk, ← ex]
    exact ey
  unfold sFc
  rw [← e2]
  exact em
theorem zFb {s d : Int32} (hs : 0 ≤ s.toInt ∧ s.toInt ≤ 9) (hd : -9 ≤ d.toInt ∧ d.toInt ≤ 9) : 1 ≤ (sM1 (1 + s - sAb d)).toInt ∧ (sM1 (1 + s - sAb d)).toInt ≤ 10 := by
  have n1 : (1 : Int32).toInt = 1 := by decide
  have n0 : (0 : Int32).toInt = 0 := by decide
  have a : 0 ≤ (sAb d).toInt ∧ (sAb d).toInt ≤ 9 := by
    unfold sAb
    by_cases q : 0 ≤ d
    · rw [if_pos q]
      have q2 := z3 n0 rfl q
      omega
    · rw [if_neg q]
      have q2 := z4 n0 rfl q
      have q3 : (0 - d).toInt = 0 - d.toInt := zsub rfl n0 rfl (by omega) (by omega)
      omega
  have e1 : (1 + s).toInt = 1 + s.toInt := zadd rfl n1 rfl (by omega) (by omega)
  have e2 : (1 + s - sAb d).toInt = 1 + s.toInt - (sAb d).toInt := zsub rfl e1 rfl (by omega) (by omega)
  unfold sM1
  by_cases q : 1 < 1 + s - sAb d
  · rw [if_pos q]
    have q2 := Int32.lt_iff_toInt_lt.mp q
    omega
  · rw [if_neg q]
    omega
theorem sFc_b {nb np : Int} {c : zK3} {T : zT} {lw : Option ((Int → Int) × Int)} {b f : Int32} {i : Nat} (h : zKo nb np c T) (hi : (i : Int) < T.1.2.2.2.1.2.2.toInt) : 1 ≤ (sFc c T.1 lw b f i).toInt ∧ (sFc c T.1 lw b f i).toInt ≤ 10 := by
  have z := h.2.2.2.1.2.2.2.2.2 i hi
  have d := h.1.1.2.2 (4 * (T.1.2.2.2.2 (4 * i + 1)).toInt.toNat) (by omega)
  have d' : hPa ((4 * (T.1.2.2.2.2 (4 * i + 1)).toInt.toNat) % 4) = 9 := by
    rw [show (4 * (T.1.2.2.2.2 (4 * i + 1)).toInt.toNat) % 4 = 0 by omega]
    rfl
  rw [d'] at d
  have v := sShow_b (c := c) (lw := lw) (p := T.1.2.2.2.2 (4 * i + 1)) (b := b) (f := f) h.2.2.2.1
  have e : (sShow c T.1 lw (T.1.2.2.2.2 (4 * i + 1)) b f - T.1.2.2.2.2 (4 * i + 2)).toInt = (sShow c T.1 lw (T.1.2.2.2.2 (4 * i + 1)) b f).toInt - (T.1.2.2.2.2 (4 * i + 2)).toInt := zsub rfl rfl rfl (by omega) (by omega)
  unfold sFc
  exact zFb d (by omega)
def sWl (c : zK3) (S : zS) (lw : Option ((Int → Int) × Int)) (b f : Int32) : Nat → Nat → Int64 → Int64
  | 0, _, v => v
  | k + 1, m, v => if m = 0 then v else if sIs c S b k then sWl c S lw b f k (m - 1) (v * (sFc c S lw b f k).toInt64) else sWl c S lw b f k m v
theorem sWl_y {c : zK3} {S : zS} {lw : Option ((Int → Int) × Int)} {b f : Int32} {k m : Nat} {v : Int64} (hm : ¬ m = 0) (h : sIs c S b k) : sWl c S lw b f (k + 1) m v = sWl c S lw b f k (m - 1) (v * (sFc c S lw b f k).toInt64) := (if_neg hm).trans (if_pos h)
theorem sWl_n {c : zK3} {S : zS} {lw : Option ((Int → Int) × Int)} {b f : Int32} {k m : Nat} {v : Int64} (hm : ¬ m = 0) (h : ¬ sIs c S b k) : sWl c S lw b f (k + 1) m v = sWl c S lw b f k m v := (if_neg hm).trans (if_neg h)
theorem sWl_e {c : zK3} {S : zS} {lw : Option ((Int → Int) × Int)} {b f : Int32} {k m : Nat} {v : Int64} (h : k = 0 ∨ m = 0) : sWl c S lw b f k m v = v := by
  cases k with
  | zero => rfl
  | succ k =>
    rcases h with h | h
    · exact absurd h (by omega)
    · exact if_pos h
theorem sWlN {c : zK3} {S : zS} {lw : Option ((Int → Int) × Int)} {b f i i' l : Int32} {v : Int64} (h0 : 0 ≤ i.toInt) (hi : i'.toInt = i.toInt - 1) (hl : 1 ≤ l.toInt) (hn : ¬ sIs c S b i.toInt.toNat) : sWl c S lw b f (i.toInt + 1).toNat l.toInt.toNat v = sWl c S lw b f (i'.toInt + 1).toNat l.toInt.toNat v := by
  rw [show (i.toInt + 1).toNat = i.toInt.toNat + 1 by omega, show (i'.toInt + 1).toNat = i.toInt.toNat by omega]
  exact sWl_n (by omega) hn
theorem sWlY {c : zK3} {S : zS} {lw : Option ((Int → Int) × Int)} {b f i i' l l' q : Int32} {v v' y : Int64} (h0 : 0 ≤ i.toInt) (hi : i'.toInt = i.toInt - 1) (hl : 1 ≤ l.toInt) (hl' : l'.toInt = l.toInt - 1) (hs : sIs c S b i.toInt.toNat) (hf : q = sFc c S lw b f i.toInt.toNat) (ey : y = q.toInt64) (ev : v' = v * y) : sWl c S lw b f (i.toInt + 1).toNat l.toInt.toNat v = sWl c S lw b f (i'.toInt + 1).toNat l'.toInt.toNat v' := by
  rw [show (i.toInt + 1).toNat = i.toInt.toNat + 1 by omega, show (i'.toInt + 1).toNat = i.toInt.toNat by omega, show l'.toInt.toNat = l.toInt.toNat - 1 by omega, ev, ey, hf]
  exact sWl_y (by omega) hs
theorem sWlE {c : zK3} {S : zS} {lw : Option ((Int → Int) × Int)} {b f i l : Int32} {v x : Int64} (h : x = sWl c S lw b f (i.toInt + 1).toNat l.toInt.toNat v) (he : i.toInt < 0 ∨ l.toInt ≤ 0) : v = x := by
  rw [h]
  exact (sWl_e (by omega)).symm
abbrev sFt (c : zK3) (S : zS) (b f : Int32) : Prop := (cBt (zFit (cBt S.2.2.1.1 b) (cBt S.2.2.1.2.1 b) (c.2.1 (4 * b.toInt.toNat))) f).toInt = 1
def sWt (c : zK3) (S : zS) (lw : Option ((Int → Int) × Int)) (b f : Int32) : Int64 := if sFt c S b f then sWl c S lw b f S.2.2.2.1.2.2.toInt.toNat 12 1 else 0
theorem zFf_d : ∀ l s : Fin 2, ∀ e f : Fin 10, ((cBt (zFit (Int32.ofNat l.val) (Int32.ofNat s.val) (Int32.ofNat e.val)) (Int32.ofNat f.val)).toInt = 1 ↔ (((Int32.ofNat l.val).toInt = 1 → (5 ≤ (Int32.ofNat f.val).toInt ↔ 5 ≤ (Int32.ofNat e.val).toInt)) ∧ ((Int32.ofNat s.val).toInt = 1 → (Int32.ofNat f.val - Int32.ofNat f.val / 2 * 2).toInt = (Int32.ofNat e.val - Int32.ofNat e.val / 2 * 2).toInt))) := by decide +kernel
theorem zFf_i {lt sh e f : Int32} (hl : lt.toInt = 0 ∨ lt.toInt = 1) (hs : sh.toInt = 0 ∨ sh.toInt = 1) (he : 0 ≤ e.toInt ∧ e.toInt ≤ 9) (hf : 0 ≤ f.toInt ∧ f.toInt ≤ 9) : (cBt (zFit lt sh e) f).toInt = 1 ↔ zFf lt sh e f := by
  have z := zFf_d ⟨lt.toInt.toNat, by omega⟩ ⟨sh.toInt.toNat, by omega⟩ ⟨e.toInt.toNat, by omega⟩ ⟨f.toInt.toNat, by omega⟩
  dsimp only at z
  rw [← zk32 (show 0 ≤ lt.toInt by omega), ← zk32 (show 0 ≤ sh.toInt by omega), ← zk32 he.1, ← zk32 hf.1] at z
  exact z
theorem zl0z {v : Int32} {x : Int64} (e : v = lg_cmp x 0) (h : v.toInt = 0) : x = 0 := by
  by_cases q : x = 0
  · exact q
  · exfalso
    by_cases p : x > 0
    · have y : lg_cmp x 0 = 1 := if_pos p
      rw [e, y] at h
      exact absurd h (by decide)
    · have y : lg_cmp x 0 = -1 := (if_neg p).trans (if_neg q)
      rw [e, y] at h
      exact absurd h (by decide)
theorem zul_s {f : Nat → Int64} {k : Nat} {x : Int64} : vp_updL f k x k = x := if_pos rfl
theorem zul_n {f : Nat → Int64} {k j : Nat} {x : Int64} (h : j ≠ k) : vp_updL f k x j = f j := if_neg h
theorem zln1 {x : Int64} (h : 1 ≤ x.toInt) : ¬ x = 0 := by
  intro q
  rw [q, show (0 : Int64).toInt = 0 from by decide] at h
  omega
def sTen : Nat → Int
  | 0 => 1
  | n + 1 => 10 * sTen n
theorem sTen_le : ∀ n : Nat, n ≤ 12 → 1 ≤ sTen n ∧ sTen n ≤ 1000000000000 := by decide
theorem zlmu {v x y : Int64} {a b : Int} (e : v = x * y) (hx : x.toInt = a) (hy : y.toInt = b) (h1 : -9223372036854775808 ≤ a * b) (h2 : a * b ≤ 9223372036854775807) : v.toInt = a * b := by
  subst hx hy
  rw [e, Int64.toInt_mul]
  exact Int.bmod_eq_of_le (by omega) (by omega)
theorem zwt2 {v x y : Int64} {q : Int32} {m : Nat} (e : v = x * y) (ey : y = q.toInt64) (h1 : 1 ≤ x.toInt) (h2 : x.toInt ≤ sTen (12 - m)) (hq : 1 ≤ q.toInt) (hq2 : q.toInt ≤ 10) (hm : 1 ≤ m) (h12 : m ≤ 12) : 1 ≤ v.toInt ∧ v.toInt ≤ sTen (12 - (m - 1)) := by
  have hy : y.toInt = q.toInt := by rw [ey]; exact Int32.toInt_toInt64 q
  have w := sTen_le (12 - m) (by omega)
  have z : sTen (12 - (m - 1)) = 10 * sTen (12 - m) := by
    rw [show 12 - (m - 1) = 12 - m + 1 by omega]
    rfl
  have a1 : x.toInt * q.toInt ≤ x.toInt * 10 := Int.mul_le_mul_of_nonneg_left hq2 (by omega)
  have a2 : x.toInt * 1 ≤ x.toInt * q.toInt := Int.mul_le_mul_of_nonneg_left hq (by omega)
  rw [zlmu e rfl hy (by omega) (by omega), z]
  omega
def zJ0 (W : Nat → Int64) (v : Int32) (k : Int) : Prop := ∀ j : Nat, (j : Int) < k → W j = (cBt v (Int32.ofNat j)).toInt64
theorem zJ0_0 {W : Nat → Int64} {v : Int32} : zJ0 W v (0 : Int32).toInt := fun j hj => by
  have : (0 : Int32).toInt = 0 := by decide
  omega
theorem zJ0_s {W W' : Nat → Int64} {v i i' b : Int32} {x : Int64} (h : zJ0 W v i.toInt) (h0 : 0 ≤ i.toInt) (hi : i'.toInt = i.toInt + 1) (eb : b = cBt v i) (ex : x = b.toInt64) (e : W' = vp_updL W i.toNatClampNeg x) : zJ0 W' v i'.toInt := by
  intro j hj
  have ii : i.toNatClampNeg = i.toInt.toNat := rfl
  rw [e, ii]
  by_cases q : j = i.toInt.toNat
  · rw [q, zul_s, ex, eb, ← zk32 h0]
  · rw [zul_n q]
    exact h j (by omega)
def zWb (W W' : Nat → Int64) (F : Nat → Int32) (k : Int) : Prop := ∀ j : Nat, j < 10 → W' j = if (j : Int) < k then (if W j = 0 then 0 else W j * (F j).toInt64) else W j
theorem zWb0 {W : Nat → Int64} {F : Nat → Int32} : zWb W W F (0 : Int32).toInt := fun j _ => by
  have n0 : (0 : Int32).toInt = 0 := by decide
  exact (if_neg (by omega)).symm
theorem zWbN {W W' : Nat → Int64} {F : Nat → Int32} {i i' : Int32} {v : Int64} (h : zWb W W' F i.toInt) (h0 : 0 ≤ i.toInt) (h9 : i.toInt < 10) (hi : i'.toInt = i.toInt + 1) (ev : v = W' i.toNatClampNeg) (hv : v = 0) : zWb W W' F i'.toInt := by
  intro j hj
  have ii : i.toNatClampNeg = i.toInt.toNat := rfl
  have z := h j hj
  rw [ii] at ev
  by_cases q : j = i.toInt.toNat
  · rw [← q] at ev
    rw [if_neg (by omega)] at z
    rw [if_pos (by omega), ← z, ← ev, hv, if_pos rfl]
  · by_cases p : (j : Int) < i.toInt
    · rw [if_pos p] at z
      rw [if_pos (by omega)]
      exact z
    · rw [if_neg p] at z
      rw [if_neg (by omega)]
      exact z
theorem zWbY {W W' W'' : Nat → Int64} {F : Nat → Int32} {i i' q : Int32} {v y x : Int64} (h : zWb W W' F i.toInt) (h0 : 0 ≤ i.toInt) (h9 : i.toInt < 10) (hi : i'.toInt = i.toInt + 1) (ev : v = W' i.toNatClampNeg) (hv : ¬ v = 0) (hq : q = F i.toInt.toNat) (ey : y = q.toInt64) (ex : x = v * y) (e : W'' = vp_updL W' i.toNatClampNeg x) : zWb W W'' F i'.toInt := by
  intro j hj
  have ii : i.toNatClampNeg = i.toInt.toNat := rfl
  have z := h j hj
  rw [ii] at ev e
  by_cases p0 : j = i.toInt.toNat
  · rw [← p0] at ev e hq
    rw [if_neg (by omega)] at z
    rw [if_pos (by omega), ← z, ← ev, if_neg hv, e, zul_s, ex, ey, hq]
  · rw [e, zul_n p0]
    by_cases p : (j : Int) < i.toInt
    · rw [if_pos p] at z
      rw [if_pos (by omega)]
      exact z
    · rw [if_neg p] at z
      rw [if_neg (by omega)]
      exact z
def zJv (c : zK3) (S : zS) (lw : Option ((Int → Int) × Int)) (b : Int32) (W : Nat → Int64) (k m : Nat) : Prop := ∀ j : Nat, j < 10 → (sFt c S b (Int32.ofNat j) → sWl c S lw b (Int32.ofNat j) S.2.2.2.1.2.2.toInt.toNat 12 1 = sWl c S lw b (Int32.ofNat j) k m (W j) ∧ 1 ≤ (W j).toInt ∧ (W j).toInt ≤ sTen (12 - m)) ∧ (¬ sFt c S b (Int32.ofNat j) → W j = 0)
theorem zJv_0 {c : zK3} {S : zS} {lw : Option ((Int → Int) × Int)} {b v i : Int32} {W : Nat → Int64} (h : zJ0 W v i.toInt) (hi : 10 ≤ i.toInt) (hv : v = zFit (cBt S.2.2.1.1 b) (cBt S.2.2.1.2.1 b) (c.2.1 (4 * b.toInt.toNat))) : zJv c S lw b W S.2.2.2.1.2.2.toInt.toNat 12 := by
  intro j hj
  have e := h j (by omega)
  refine ⟨fun q => ?_, fun q => ?_⟩
  · have e1 : cBt v (Int32.ofNat j) = 1 := Int32.toInt_inj.mp (by rw [hv]; exact Eq.trans q (by decide))
    rw [e1, show (1 : Int32).toInt64 = 1 from by decide] at e
    rw [e]
    exact ⟨rfl, by decide, by decide⟩
  · have e0 := (cBt_b (x := v) (y := Int32.ofNat j)).resolve_right (by rw [hv]; exact q)
    have e1 : cBt v (Int32.ofNat j) = 0 := Int32.toInt_inj.mp (e0.trans (by decide))
    rw [e1] at e
    rw [e]
    decide
theorem zJv_n {c : zK3} {S : zS} {lw : Option ((Int → Int) × Int)} {b : Int32} {W : Nat → Int64} {k m : Nat} (h : zJv c S lw b W (k + 1) m) (hn : ¬ sIs c S b k) (hm : ¬ m = 0) : zJv c S lw b W k m := fun j hj => by
  obtain ⟨a, b1⟩ := h j hj
  exact ⟨fun q => ⟨(a q).1.trans (sWl_n hm hn), (a q).2⟩, b1⟩
theorem zJv_y {nb np : Int} {c : zK3} {T : zT} {lw : Option ((Int → Int) × Int)} {b : Int32} {W W' : Nat → Int64} {k m : Nat} (h : zJv c T.1 lw b W (k + 1) m) (hs : sIs c T.1 b k) (hm : 1 ≤ m) (h12 : m ≤ 12) (hk : zKo nb np c T) (hi : (k : Int) < T.1.2.2.2.1.2.2.toInt) (hw : zWb W W' (fun j => sFc c T.1 lw b (Int32.ofNat j) k) 10) : zJv c T.1 lw b W' k (m - 1) := fun j hj => by
  obtain ⟨a, b1⟩ := h j hj
  have w : W' j = if W j = 0 then 0 else W j * (sFc c T.1 lw b (Int32.ofNat j) k).toInt64 := (hw j hj).trans (if_pos (by omega))
  refine ⟨fun q => ?_, fun q => ?_⟩
  · obtain ⟨y1, y2, y3⟩ := a q
    rw [if_neg (zln1 y2)] at w
    have fb := sFc_b (lw := lw) (b := b) (f := Int32.ofNat j) hk hi
    refine ⟨?_, zwt2 w rfl y2 y3 fb.1 fb.2 hm h12⟩
    rw [w]
    exact y1.trans (sWl_y (by omega) hs)
  · rw [if_pos (b1 q)] at w
    exact w
theorem zJvN {c : zK3} {S : zS} {lw : Option ((Int → Int) × Int)} {b i i' t : Int32} {W : Nat → Int64} (h : zJv c S lw b W (i.toInt + 1).toNat (12 - t.toInt).toNat) (h0 : 0 ≤ i.toInt) (hi : i'.toInt = i.toInt - 1) (ht : t.toInt < 12) (hn : ¬ sIs c S b i.toInt.toNat) : zJv c S lw b W (i'.toInt + 1).toNat (12 - t.toInt).toNat := by
  rw [show (i.toInt + 1).toNat = i.toInt.toNat + 1 by omega] at h
  rw [show (i'.toInt + 1).toNat = i.toInt.toNat by omega]
  exact zJv_n h hn (by omega)
theorem zJvY {nb np : Int} {c : zK3} {T : zT} {lw : Option ((Int → Int) × Int)} {b i i' t t' : Int32} {W W' : Nat → Int64} (h : zJv c T.1 lw b W (i.toInt + 1).toNat (12 - t.toInt).toNat) (h0 : 0 ≤ i.toInt) (hi : i'.toInt = i.toInt - 1) (ht0 : 0 ≤ t.toInt) (ht : t.toInt < 12) (ht' : t'.toInt = t.toInt + 1) (hs : sIs c T.1 b i.toInt.toNat) (hk : zKo nb np c T) (hn : i.toInt < T.1.2.2.2.1.2.2.toInt) (hw : zWb W W' (fun j => sFc c T.1 lw b (Int32.ofNat j) i.toInt.toNat) 10) : zJv c T.1 lw b W' (i'.toInt + 1).toNat (12 - t'.toInt).toNat := by
  rw [show (i.toInt + 1).toNat = i.toInt.toNat + 1 by omega] at h
  rw [show (i'.toInt + 1).toNat = i.toInt.toNat by omega, show (12 - t'.toInt).toNat = (12 - t.toInt).toNat - 1 by omega]
  exact zJv_y h hs (by omega) (by omega) hk (by omega) hw
theorem zJvE {c : zK3} {S : zS} {lw : Option ((Int → Int) × Int)} {b i t : Int32} {W : Nat → Int64} (h : zJv c S lw b W (i.toInt + 1).toNat (12 - t.toInt).toNat) (he : i.toInt < 0 ∨ 12 ≤ t.toInt) : ∀ j : Nat, j < 10 → W j = sWt c S lw b (Int32.ofNat j) := fun j hj => by
  obtain ⟨a, b1⟩ := h j hj
  unfold sWt
  by_cases q : sFt c S b (Int32.ofNat j)
  · rw [if_pos q, (a q).1, sWl_e (by omega)]
  · rw [if_neg q]
    exact b1 q
def zSm (W : Nat → Int64) : Nat → Int64
  | 0 => 0
  | k + 1 => zSm W k + W k
theorem zSmS {W : Nat → Int64} {i i' : Int32} {x v y : Int64} (h : x = zSm W i.toInt.toNat) (h0 : 0 ≤ i.toInt) (hi : i'.toInt = i.toInt + 1) (hv : v = W i.toNatClampNeg) (e : y = x + v) : y = zSm W i'.toInt.toNat := by
  rw [show i'.toInt.toNat = i.toInt.toNat + 1 by omega, e, h, hv]
  rfl
theorem zSm_c {W W' : Nat → Int64} : ∀ k : Nat, (∀ j : Nat, j < k → W j = W' j) → zSm W k = zSm W' k := by
  intro k
  induction k with
  | zero => intro _; rfl
  | succ k ih =>
    intro h
    unfold zSm
    rw [h k (by omega), ih (fun j hj => h j (by omega))]
def zXm (B : Nat → Int32) : Nat → Int32
  | 0 => 0
  | k + 1 => if (B (zXm B k).toInt.toNat).toInt < (B (k + 1)).toInt then Int32.ofNat (k + 1) else zXm B k
theorem zXm_b {B : Nat → Int32} : ∀ k : Nat, k ≤ 99 → 0 ≤ (zXm B k).toInt ∧ (zXm B k).toInt ≤ (k : Int) := by
  intro k
  induction k with
  | zero => intro _; show 0 ≤ (0 : Int32).toInt ∧ (0 : Int32).toInt ≤ ((0 : Nat) : Int); decide
  | succ k ih =>
    intro hk
    have z := ih (by omega)
    unfold zXm
    by_cases q : (B (zXm B k).toInt.toNat).toInt < (B (k + 1)).toInt
    · have y : (Int32.ofNat (k + 1)).toInt = ((k + 1 : Nat) : Int) := nI_toInt (by omega)
      rw [if_pos q, y]
      omega
    · rw [if_neg q]
      omega
theorem zXm_c {B B' : Nat → Int32} : ∀ k : Nat, k ≤ 99 → (∀ j : Nat, j ≤ k → B j = B' j) → zXm B k = zXm B' k := by
  intro k
  induction k with
  | zero => intro _ _; rfl
  | succ k ih =>
    intro hk h
    have e := ih (by omega) (fun j hj => h j (by omega))
    have b := zXm_b (B := B') k (by omega)
    unfold zXm
    rw [e, h (k + 1) (Nat.le_refl _), h (zXm B' k).toInt.toNat (by omega)]
theorem zXmS {B : Nat → Int32} {i i' x y u v : Int32} (h : x = zXm B (i.toInt.toNat - 1)) (h1 : 1 ≤ i.toInt) (hi : i'.toInt = i.toInt + 1) (hu : u = B i.toInt.toNat) (hv : v = B x.toInt.toNat) (hc : (v.toInt < u.toInt ∧ y = i) ∨ (u.toInt ≤ v.toInt ∧ y = x)) : y = zXm B (i'.toInt.toNat - 1) := by
  obtain ⟨k, hk⟩ : ∃ k : Nat, i.toInt.toNat = k + 1 := ⟨i.toInt.toNat - 1, by omega⟩
  rw [hk, Nat.add_sub_cancel] at h
  rw [show i'.toInt.toNat - 1 = k + 1 by omega]
  unfold zXm
  rw [← h, ← hv, ← hk, ← hu, ← zk32 (show 0 ≤ i.toInt by omega)]
  rcases hc with ⟨a, b⟩ | ⟨a, b⟩
  · rw [if_pos a]
    exact b
  · rw [if_neg (by omega)]
    exact b
def sBv (W : Nat → Int64) (t : Int64) (j : Nat) : Int32 := if t = 0 then 0 else (W j * 1000000 / t).toInt32
def sTot (c : zK3) (S : zS) (lw : Option ((Int → Int) × Int)) (b : Int32) : Int64 := zSm (fun i => sWt c S lw b (Int32.ofNat i)) 10
def sBl (c : zK3) (S : zS) (lw : Option ((Int → Int) × Int)) (b : Int32) (j : Nat) : Int32 := if sTot c S lw b = 0 then 0 else (sWt c S lw b (Int32.ofNat j) * 1000000 / sTot c S lw b).toInt32
def sLi (c : zK3) (S : zS) (lw : Option ((Int → Int) × Int)) (b : Int32) : Int32 := zXm (sBl c S lw b) 9
def zWe (c : zK3) (S : zS) (lw : Option ((Int → Int) × Int)) (b : Int32) (W : Nat → Int64) (t : Int64) (f : Int32) : Prop := (∀ j : Nat, j < 10 → sBv W t j = sBl c S lw b j) ∧ f = sLi c S lw b
theorem zWe_mk {c : zK3} {S : zS} {lw : Option ((Int → Int) × Int)} {b f k m : Int32} {W : Nat → Int64} {t : Int64} (hW : ∀ j : Nat, j < 10 → W j = sWt c S lw b (Int32.ofNat j)) (ht : t = zSm W k.toInt.toNat) (hk : k.toInt = 10) (hf : f = zXm (sBv W t) (m.toInt.toNat - 1)) (hm : m.toInt = 10) : zWe c S lw b W t f := by
  have e1 : t = sTot c S lw b := by
    rw [ht, hk]
    exact zSm_c 10 hW
  have e2 : ∀ j : Nat, j < 10 → sBv W t j = sBl c S lw b j := fun j hj => by
    unfold sBl sBv
    rw [e1, hW j hj]
  refine ⟨e2, ?_⟩
  rw [hf, show m.toInt.toNat - 1 = 9 by omega]
  exact zXm_c 9 (by decide) (fun j hj => e2 j (by omega))
def sV_bel (nb : Int) (c : zK3) (S : zS) (lw : Option ((Int → Int) × Int)) (b f : Int32) : Int32 := if (0 ≤ b.toInt ∧ b.toInt < nb) ∧ 0 ≤ f.toInt ∧ f.toInt ≤ 9 then sBl c S lw b f.toInt.toNat else -1
def sV_lik (nb : Int) (c : zK3) (S : zS) (lw : Option ((Int → Int) × Int)) (b w : Int32) : Int32 := if (0 ≤ b.toInt ∧ b.toInt < nb) ∧ 0 ≤ w.toInt ∧ w.toInt ≤ 1 then (if w.toInt = 0 then sLi c S lw b else sBl c S lw b (sLi c S lw b).toInt.toNat) else -1
def sV_sur (nb : Int) (c : zK3) (S : zS) (lw : Option ((Int → Int) × Int)) (b t : Int32) : Int32 := if (0 ≤ b.toInt ∧ b.toInt < nb) ∧ 1 ≤ t.toInt ∧ t.toInt ≤ 1000000 then (if t.toInt ≤ (sBl c S lw b (sLi c S lw b).toInt.toNat).toInt then 1 else 0) else -1
theorem zTotY {c : zK3} {S : zS} {lw : Option ((Int → Int) × Int)} {b i i' : Int32} {x w y : Int64} (h : x = zSm (fun i => sWt c S lw b (Int32.ofNat i)) i.toInt.toNat) (h0 : 0 ≤ i.toInt) (hi : i'.toInt = i.toInt + 1) (hf : sFt c S b i) (hw : w = sWl c S lw b i S.2.2.2.1.2.2.toInt.toNat 12 1) (e : y = x + w) : y = zSm (fun i => sWt c S lw b (Int32.ofNat i)) i'.toInt.toNat := by
  rw [show i'.toInt.toNat = i.toInt.toNat + 1 by omega]
  show y = zSm (fun i => sWt c S lw b (Int32.ofNat i)) i.toInt.toNat + sWt c S lw b (Int32.ofNat i.toInt.toNat)
  rw [← zk32 h0, ← h, e, hw]
  unfold sWt
  rw [if_pos hf]
theorem zTotN {c : zK3} {S : zS} {lw : Option ((Int → Int) × Int)} {b i i' : Int32} {x y : Int64} (h : x = zSm (fun i => sWt c S lw b (Int32.ofNat i)) i.toInt.toNat) (h0 : 0 ≤ i.toInt) (hi : i'.toInt = i.toInt + 1) (hf : ¬ sFt c S b i) (e : y = x + 0) : y = zSm (fun i => sWt c S lw b (Int32.ofNat i)) i'.toInt.toNat := by
  rw [show i'.toInt.toNat = i.toInt.toNat + 1 by omega]
  show y = zSm (fun i => sWt c S lw b (Int32.ofNat i)) i.toInt.toNat + sWt c S lw b (Int32.ofNat i.toInt.toNat)
  rw [← zk32 h0, ← h, e]
  unfold sWt
  rw [if_neg hf]
theorem zBlS {B E E' : Nat → Int32} {i i' r : Int32} (h : ∀ j : Nat, (j : Int) < i.toInt → E j = B j) (h0 : 0 ≤ i.toInt) (hi : i'.toInt = i.toInt + 1) (e : E' = upd E i.toNatClampNeg r) (hr : r = B i.toInt.toNat) : ∀ j : Nat, (j : Int) < i'.toInt → E' j = B j := by
  intro j hj
  have ii : i.toNatClampNeg = i.toInt.toNat := rfl
  rw [e, ii]
  by_cases q : j = i.toInt.toNat
  · rw [q, pk_us]
    exact hr
  · rw [pk_un q]
    exact h j (by omega)
theorem sBl_y {c : zK3} {S : zS} {lw : Option ((Int → Int) × Int)} {b i r : Int32} {t w a d : Int64} (ht : t = sTot c S lw b) (h1 : 1 ≤ t.toInt) (h0 : 0 ≤ i.toInt) (hf : sFt c S b i) (hw : w = sWl c S lw b i S.2.2.2.1.2.2.toInt.toNat 12 1) (ea : a = 1000000 * w) (ed : d = a / t) (er : r = d.toInt32) : r = sBl c S lw b i.toInt.toNat := by
  have e : w = sWt c S lw b i := by
    unfold sWt
    rw [if_pos hf]
    exact hw
  unfold sBl
  rw [← ht, if_neg (zln1 h1), ← zk32 h0, er, ed, ea, e, Int64.mul_comm 1000000 _]
theorem sBl_n {c : zK3} {S : zS} {lw : Option ((Int → Int) × Int)} {b i : Int32} {t : Int64} (ht : t = sTot c S lw b) (h1 : 1 ≤ t.toInt) (h0 : 0 ≤ i.toInt) (hf : ¬ sFt c S b i) : (0 : Int32) = sBl c S lw b i.toInt.toNat := by
  have e : sWt c S lw b i = 0 := if_neg hf
  have z : (0 : Int64) / t = 0 := by first | exact Int64.zero_div | exact Int64.zero_div t | simp
  unfold sBl
  rw [← ht, if_neg (zln1 h1), ← zk32 h0, e, show (0 : Int64) * 1000000 = 0 from by decide, z]
  decide
