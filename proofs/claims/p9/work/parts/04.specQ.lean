theorem zActR2 {nb np : Int} {T : zT} {S : zS} {Y F P W rf : Nat → Int32} {pn lt sh wd pu mo pl cn v : Int32} {w : Int} (hw : ¬ w = -1) (h : zTc nb np (sRef T w) Y F P pn lt sh wd pu mo W pl cn rf) : (-1 : Int32) = sA w v ∧ zTc nb np (sDo w T S) Y F P pn lt sh wd pu mo W pl cn rf := by
  unfold sA sDo
  rw [if_neg hw, if_neg hw]
  exact ⟨rfl, h⟩
theorem zTc_ref {nb np : Int} {T : zT} {Y F P W rf rf' : Nat → Int32} {pn lt sh wd pu mo pl cn : Int32} {w x : Int} (hw : w = x) (h : zTc nb np T Y F P pn lt sh wd pu mo W pl cn rf) (e : zRf rf rf' x) : zTc nb np (sRef T w) Y F P pn lt sh wd pu mo W pl cn rf' := by
  refine ⟨h.1, h.2.1, ?_⟩
  rw [hw]
  exact e _ h.2.2
theorem zSc_L {nb np : Int} {S : zS} {Y F P : Nat → Int32} {pn lt sh wd pu mo lt' pu' b : Int32} (h : zSc nb np S Y F P pn lt sh wd pu mo) (e : lt' = lt ||| (1 <<< (b &&& 31))) (e2 : pu' = pu - 2) : zSc nb np (sN_ltr S b) Y F P pn lt' sh wd pu' mo := by
  refine ⟨h.1, h.2.1, ?_, ?_, h.2.2.2.2⟩
  · show (S.2.2.1.1 ||| (1 <<< (b &&& 31)), S.2.2.1.2.1, S.2.2.1.2.2) = _
    rw [zSc_lt h, zSc_sh h, zSc_wd h, e]
  · show (S.2.2.2.1.1 - 2, S.2.2.2.1.2.1, S.2.2.2.1.2.2) = _
    rw [zSc_pu h, zSc_mo h, zSc_pn h, e2]
theorem zSc_S {nb np : Int} {S : zS} {Y F P : Nat → Int32} {pn lt sh wd pu mo sh' pu' b : Int32} (h : zSc nb np S Y F P pn lt sh wd pu mo) (e : sh' = sh ||| (1 <<< (b &&& 31))) (e2 : pu' = pu - 1) : zSc nb np (sN_sho S b) Y F P pn lt sh' wd pu' mo := by
  refine ⟨h.1, h.2.1, ?_, ?_, h.2.2.2.2⟩
  · show (S.2.2.1.1, S.2.2.1.2.1 ||| (1 <<< (b &&& 31)), S.2.2.1.2.2) = _
    rw [zSc_lt h, zSc_sh h, zSc_wd h, e]
  · show (S.2.2.2.1.1 - 1, S.2.2.2.1.2.1, S.2.2.2.1.2.2) = _
    rw [zSc_pu h, zSc_mo h, zSc_pn h, e2]
theorem zSc_W {nb np : Int} {c : zK3} {S : zS} {Y F P : Nat → Int32} {pn lt sh wd pu mo pu' b : Int32} (h : zSc nb np S Y F P pn lt sh wd pu mo) (e2 : pu' = sMin 999 (pu + c.2.1 (4 * b.toInt.toNat + 1) / 10)) : zSc nb np (sN_wed c S b) Y F P pn lt sh b pu' mo := by
  refine ⟨h.1, h.2.1, ?_, ?_, h.2.2.2.2⟩
  · show (S.2.2.1.1, S.2.2.1.2.1, b) = _
    rw [zSc_lt h, zSc_sh h]
  · show (sMin 999 (S.2.2.2.1.1 + c.2.1 (4 * b.toInt.toNat + 1) / 10), S.2.2.2.1.2.1, S.2.2.2.1.2.2) = _
    rw [zSc_pu h, zSc_mo h, zSc_pn h, e2]
theorem zSc_N {nb np : Int} {S : zS} {Y F P : Nat → Int32} {pn lt sh wd pu mo : Int32} (h : zSc nb np S Y F P pn lt sh wd pu mo) : zSc nb np (sN_ann S) Y F P pn lt sh (-1) pu mo := by
  refine ⟨h.1, h.2.1, ?_, h.2.2.2.1, h.2.2.2.2⟩
  show (S.2.2.1.1, S.2.2.1.2.1, (-1 : Int32)) = _
  rw [zSc_lt h, zSc_sh h]
theorem zSc_M {nb np : Int} {S : zS} {Y F P : Nat → Int32} {pn lt sh wd pu mo pu' mo' : Int32} (h : zSc nb np S Y F P pn lt sh wd pu mo) (e1 : pu' = sMin 999 (pu + 1)) (e2 : mo' = mo + 1) : zSc nb np (sPass S) Y F P pn lt sh wd pu' mo' := by
  refine ⟨h.1, h.2.1, h.2.2.1, ?_, h.2.2.2.2⟩
  show (sMin 999 (S.2.2.2.1.1 + 1), S.2.2.2.1.2.1 + 1, S.2.2.2.1.2.2) = _
  rw [zSc_pu h, zSc_mo h, zSc_pn h, e1, e2]
theorem zSc_B2 {nb np : Int} {S : zS} {Y F P : Nat → Int32} {pn lt sh wd pu mo pu' : Int32} {t : Int32 × Int32 × Int32} (h : zSc nb np S Y F P pn lt sh wd pu mo) (e : t = (pu', mo, pn)) : zSc nb np (sSetB S t) Y F P pn lt sh wd pu' mo := by
  rw [e]
  exact ⟨h.1, h.2.1, h.2.2.1, rfl, h.2.2.2.2⟩
theorem sMon_b {nb np : Int} {T : zT} (h : zTb5 nb np T) : ∀ (k : Nat), (k : Int) ≤ 999 - T.1.2.2.2.1.2.1.toInt → zTb5 nb np (sMon T k) ∧ (sMon T k).1.2.2.2.1.2.1.toInt = T.1.2.2.2.1.2.1.toInt + (k : Int) := by
  intro k
  induction k with
  | zero => intro _; exact ⟨h, by show T.1.2.2.2.1.2.1.toInt = T.1.2.2.2.1.2.1.toInt + ((0 : Nat) : Int); omega⟩
  | succ k ih =>
    intro hk
    obtain ⟨a, b⟩ := ih (by omega)
    have m0 := h.2.2.1.2.2.2.1
    have hm : ((sMon T k).1.2.2.2.1.2.1 + 1).toInt = (sMon T k).1.2.2.2.1.2.1.toInt + 1 := zadd rfl rfl (by decide) (by omega) (by omega)
    refine ⟨sAct_b a ?_ (Int.le_refl _), ?_⟩
    · obtain ⟨a1, a2, a3, a4, a5, a6⟩ := a.2.2.1
      refine ⟨a1, a2, a3, ?_, a5, a6⟩
      show 0 ≤ ((sMon T k).1.2.2.2.1.2.1 + 1).toInt ∧ ((sMon T k).1.2.2.2.1.2.1 + 1).toInt ≤ 999
      omega
    · show ((sMon T k).1.2.2.2.1.2.1 + 1).toInt = _
      omega
theorem zKo_b5 {nb np : Int} {c : zK3} {T : zT} {p b f : Int32} (h : zKo nb np c T) (hp : 0 ≤ p.toInt ∧ p.toInt < np) (hb : 0 ≤ b.toInt ∧ b.toInt < nb) (hf : zB6 f) : zB5 f (c.2.1 (4 * b.toInt.toNat + 2)) (T.1.1 b.toInt.toNat) (c.2.2 (4 * p.toInt.toNat)) (T.1.2.1 p.toInt.toNat) T.1.2.2.2.1.2.1 := by
  obtain ⟨⟨⟨k1, k2, k3⟩, -⟩, -, -, ⟨s1, s2, -, s4, -⟩, -⟩ := h
  have a := k2 (4 * b.toInt.toNat + 2) (by omega)
  have a' : hBr ((4 * b.toInt.toNat + 2) % 4) = 9 := by
    rw [show (4 * b.toInt.toNat + 2) % 4 = 2 by omega]
    rfl
  have d := k3 (4 * p.toInt.toNat) (by omega)
  have d' : hPa ((4 * p.toInt.toNat) % 4) = 9 := by
    rw [show (4 * p.toInt.toNat) % 4 = 0 by omega]
    rfl
  have y := s1 b.toInt.toNat (by omega)
  have z := s2 p.toInt.toNat (by omega)
  rw [a'] at a
  rw [d'] at d
  refine ⟨hf, ?_, ?_, ?_, ?_, ?_⟩ <;> unfold zB6 <;> omega
theorem zFace_b {nb np : Int} {c : zK3} {T : zT} {b : Int32} (h : zKo nb np c T) (hb : 0 ≤ b.toInt ∧ b.toInt < nb) : 0 ≤ (c.2.1 (4 * b.toInt.toNat)).toInt ∧ (c.2.1 (4 * b.toInt.toNat)).toInt ≤ 9 := by
  have a := h.1.1.2.1 (4 * b.toInt.toNat) (by omega)
  have a' : hBr ((4 * b.toInt.toNat) % 4) = 9 := by
    rw [show (4 * b.toInt.toNat) % 4 = 0 by omega]
    rfl
  rw [a'] at a
  exact a
theorem sShow_n {nb np : Int} {c : zK3} {S : zS} {fr fb fp Y F P : Nat → Int32} {pn lt sh wd pu mo p b f r : Int32} (hc : zCn fr fb fp nb np c) (h : zSc nb np S Y F P pn lt sh wd pu mo) (hp : 0 ≤ p.toInt ∧ p.toInt < np) (hb : 0 ≤ b.toInt ∧ b.toInt < nb) (F0 : ∀ sk m : Int32, r = zSh (fp (4 * p.toInt.toNat + 3)) (zLat P p pn.toInt.toNat) (zLkv none f (fb (4 * b.toInt.toNat + 2)) (Y b.toInt.toNat) sk (F p.toInt.toNat) m)) : r = sShow c S none p b f := by
  unfold sShow
  rw [F0 (c.2.2 (4 * p.toInt.toNat)) S.2.2.2.1.2.1, hc.2.2 _ (by omega), hc.2.1 _ (by omega), h.1 _ (by omega), h.2.1 _ (by omega), zSc_pn h, zLat_c (zSc_P h)]
theorem sShow_l {nb np : Int} {c : zK3} {T : zT} {fr fb fp Y F P fS : Nat → Int32} {pn lt sh wd pu mo p b f r : Int32} {lk : Nat} {t : (Int → Int) × Int} (hc : zCn fr fb fp nb np c) (hk : zKo nb np c T) (h : zSc nb np T.1 Y F P pn lt sh wd pu mo) (hp : 0 ≤ p.toInt ∧ p.toInt < np) (hb : 0 ≤ b.toInt ∧ b.toInt < nb) (hf : 0 ≤ f.toInt ∧ f.toInt ≤ 9) (ht : zLwC fS lk t) (F0 : ∀ t : (Int → Int) × Int, zLwC fS lk t → zB5 f (fb (4 * b.toInt.toNat + 2)) (Y b.toInt.toNat) (fp (4 * p.toInt.toNat)) (F p.toInt.toNat) mo → r = zSh (fp (4 * p.toInt.toNat + 3)) (zLat P p pn.toInt.toNat) (zLkv (some t) f (fb (4 * b.toInt.toNat + 2)) (Y b.toInt.toNat) (fp (4 * p.toInt.toNat)) (F p.toInt.toNat) mo)) : r = sShow c T.1 (some t) p b f := by
  have h5 := zKo_b5 hk hp hb (f := f) (by unfold zB6; omega)
  rw [← hc.2.2 (4 * p.toInt.toNat) (by omega), ← hc.2.1 (4 * b.toInt.toNat + 2) (by omega), ← h.1 b.toInt.toNat (by omega), ← h.2.1 p.toInt.toNat (by omega), zSc_mo h] at h5
  unfold sShow
  rw [F0 t ht h5, hc.2.2 (4 * p.toInt.toNat) (by omega), hc.2.2 (4 * p.toInt.toNat + 3) (by omega), hc.2.1 (4 * b.toInt.toNat + 2) (by omega), h.1 b.toInt.toNat (by omega), h.2.1 p.toInt.toNat (by omega), zSc_mo h, zSc_pn h, zLat_c (zSc_P h)]
theorem zoi1 : Int32.ofInt 1 = 1 := by decide
theorem zbg0 {f g : Nat → Int32} {k : Nat} : ∀ i : Nat, (i : Int) < (0 : Int32).toInt → f i = g (4 * i + k) := fun i hi => by
  have : (0 : Int32).toInt = 0 := by decide
  omega
theorem zbgS {f f' g : Nat → Int32} {k : Nat} {i i' v : Int32} (h : ∀ j : Nat, (j : Int) < i.toInt → f j = g (4 * j + k)) (h0 : 0 ≤ i.toInt) (e : f' = upd f i.toNatClampNeg v) (ev : v = g (4 * i.toInt.toNat + k)) (hi : i'.toInt = i.toInt + 1) : ∀ j : Nat, (j : Int) < i'.toInt → f' j = g (4 * j + k) := by
  intro j hj
  have ii : i.toNatClampNeg = i.toInt.toNat := rfl
  rw [e, ii]
  by_cases q : j = i.toInt.toNat
  · rw [q, pk_us]
    exact ev
  · rw [pk_un q]
    exact h j (by omega)
theorem zSc_cp {nb np : Int} {S : zS} {Y F P Y' F' P' : Nat → Int32} {pn lt sh wd pu mo : Int32} (h : zSc nb np S Y F P pn lt sh wd pu mo) (e : (∀ i : Nat, i < 6 → Y' i = Y i) ∧ (∀ i : Nat, i < 5 → F' i = F i) ∧ ∀ i : Nat, i < 80 → P' i = P i) (hb : nb ≤ 6) (hp : np ≤ 5) (hn : pn.toInt ≤ 20) : zSc nb np S Y' F' P' pn lt sh wd pu mo :=
  ⟨fun i hi => (e.1 i (by omega)).trans (h.1 i hi), fun i hi => (e.2.1 i (by omega)).trans (h.2.1 i hi), h.2.2.1, h.2.2.2.1, fun i hi => (e.2.2 i (by omega)).trans (h.2.2.2.2 i hi)⟩
theorem zSc_bg {nb np : Int} {c : zK3} {fr fb fp Y F P : Nat → Int32} {pu : Int32} (hc : zCn fr fb fp nb np c) (e : (∀ i : Nat, (i : Int) < nb → Y i = fb (4 * i + 3)) ∧ (∀ i : Nat, (i : Int) < np → F i = fp (4 * i + 2)) ∧ pu = fr 0) : zSc nb np (sBeg c) Y F P 0 0 0 (-1) pu 0 := by
  refine ⟨fun i hi => ?_, fun i hi => ?_, rfl, ?_, fun i hi => ?_⟩
  · rw [e.1 i hi]
    exact hc.2.1 _ (by omega)
  · rw [e.2.1 i hi]
    exact hc.2.2 _ (by omega)
  · show (c.1 0, (0 : Int32), (0 : Int32)) = _
    rw [e.2.2, hc.1 0 (by omega)]
  · have : (0 : Int32).toInt = 0 := by decide
    omega
theorem sW_tld_e {nb : Int} {S : zS} {x y b : Int32} {k k' : Int} (e : x = y) (hk : k = k') : sW_tld nb S x b k = sW_tld nb S y b k' := by
  rw [e, hk]
theorem zActB {nb np : Int} {T : zT} {S' : zS} {Y F P W W' Y' F' P' rf rf' : Nat → Int32} {pn lt sh wd pu mo pl cn pn' lt' sh' wd' pu' mo' pl' cn' r v : Int32} {w : Int} (hw : w = -1) (hb : zTb5 nb np T) (h : zTc nb np T Y F P pn lt sh wd pu mo W pl cn rf) (k : zKc nb np (sKeep T.1 T.2.1) P W' pl' cn') (s : zSc nb np S' Y' F' P' pn' lt' sh' wd' pu' mo') (hP : ∀ i : Nat, (i : Int) < 4 * pn.toInt → P' i = P i) (er : rf' = rf) (e : r = v) : r = sA w v ∧ zTc nb np (sDo w T S') Y' F' P' pn' lt' sh' wd' pu' mo' W' pl' cn' rf' := by
  rw [er]
  exact zActA hw hb h k s hP e
theorem zSc_Pt {nb np : Int} {c : zK3} {S : zS} {lw : Option ((Int → Int) × Int)} {Y F P P' : Nat → Int32} {pn pn' lt sh wd pu mo pu' p b v : Int32} (h : zSc nb np S Y F P pn lt sh wd pu mo) (g : zSc nb np (sHang S b p v) Y F P' pn' lt sh wd pu mo) (ev : v = sV_pnt c S lw p b) (e : pu' = pu - c.2.2 (4 * p.toInt.toNat + 1)) : zSc nb np (sN_pnt c S lw p b) Y F P' pn' lt sh wd pu' mo := by
  unfold sN_pnt
  rw [← ev]
  refine zSc_B2 g ?_
  have z : S.2.2.2.1.2.2 + 1 = pn' := zSc_pn g
  rw [z, zSc_pu h, zSc_mo h, e]
def zIc (nb np : Int) (im : Int32 × zS) (hi : Int32) (Y F P : Nat → Int32) (pn lt sh wd pu mo : Int32) : Prop := hi = im.1 ∧ (im.1.toInt = 0 ∨ zSc nb np im.2 Y F P pn lt sh wd pu mo)
def zIr (nb np : Int) (im : Int32 × zS) (hi : Int32) (N : Nat → Int32) : Prop := hi = im.1 ∧ (im.1.toInt = 0 ∨ zSr nb np im.2 N)
def sI_img (nb : Int) (T : zT) (im : Int32 × zS) : Int32 × zS := if 0 < nb then (1, T.1) else im
def sV_img (nb : Int) (T : zT) : Int32 := if 0 < nb then T.1.2.2.2.1.2.1 else -1
def sT_bck (im : Int32 × zS) (T : zT) : zT := if im.1.toInt = 0 then T else (im.2, [], T.2.2)
def sV_bck (im : Int32 × zS) : Int32 := if im.1.toInt = 0 then -1 else im.2.2.2.2.1.2.1
def sT_dec (nb np br : Int32) (c : zK3) (lw : Option ((Int → Int) × Int)) (T : zT) (n : Int32) (x : Int64) : zT := if sQ_dec nb.toInt T.1 n then (sDec nb np br c lw T x n.toInt.toNat).1 else T
def sV_dec (nb np br : Int32) (c : zK3) (lw : Option ((Int → Int) × Int)) (T : zT) (n : Int32) (x : Int64) : Int32 := if sQ_dec nb.toInt T.1 n then (sDec nb np br c lw T x n.toInt.toNat).1.1.2.2.2.1.2.1 else -1
theorem zLat_b {nb np : Int} {S : zS} {p : Int32} (h : zSb nb np S) : ∀ k : Nat, (k : Int) ≤ S.2.2.2.1.2.2.toInt → (zLat S.2.2.2.2 p k).toInt = -1 ∨ (0 ≤ (zLat S.2.2.2.2 p k).toInt ∧ (zLat S.2.2.2.2 p k).toInt ≤ 9) := by
  intro k
  induction k with
  | zero => intro _; exact Or.inl (by show (-1 : Int32).toInt = -1; decide)
  | succ k ih =>
    intro hk
    unfold zLat
    by_cases q : (S.2.2.2.2 (4 * k + 1)).toInt = p.toInt
    · rw [if_pos q]
      exact Or.inr (h.2.2.2.2.2 k (by omega)).2.2
    · rw [if_neg q]
      exact ih (by omega)
theorem zSh_b {k t v : Int32} (hv : 0 ≤ v.toInt ∧ v.toInt ≤ 9) (ht : t.toInt = -1 ∨ (0 ≤ t.toInt ∧ t.toInt ≤ 9)) : 0 ≤ (zSh k t v).toInt ∧ (zSh k t v).toInt ≤ 9 := by
  unfold zSh
  by_cases q1 : k.toInt = 1
  · rw [if_pos q1]
    have a : (v + 7).toInt = v.toInt + 7 := zadd rfl rfl (by decide) (by omega) (by omega)
    have b : ((v + 7) / 2).toInt = (v.toInt + 7) / 2 := zdiv rfl a (by decide) (by omega) (by omega)
    omega
  · rw [if_neg q1]
    by_cases q2 : k.toInt = 2
    · rw [if_pos q2]
      have a : (v - 2).toInt = v.toInt - 2 := zsub rfl rfl (by decide) (by omega) (by omega)
      have n0 : (0 : Int32).toInt = 0 := by decide
      by_cases q3 : 0 < v - 2
      · rw [if_pos q3]
        have := Int32.lt_iff_toInt_lt.mp q3
        omega
      · rw [if_neg q3]
        omega
    · rw [if_neg q2]
      by_cases q3 : k.toInt = 3 ∧ ¬ t.toInt = -1
      · rw [if_pos q3]
        omega
      · rw [if_neg q3]
        exact hv
theorem sShow_b {nb np : Int} {c : zK3} {S : zS} {lw : Option ((Int → Int) × Int)} {p b f : Int32} (h : zSb nb np S) : 0 ≤ (sShow c S lw p b f).toInt ∧ (sShow c S lw p b f).toInt ≤ 9 :=
  zSh_b (zLkv_b ..) (zLat_b h _ (by have := h.2.2.2.2.1; omega))
theorem zup4 {Q : Nat → Int32} {m : Nat} {b p v x : Int32} : upd (upd (upd (upd Q (4 * m) b) (4 * m + 1) p) (4 * m + 2) v) (4 * m + 3) x (4 * m) = b ∧ upd (upd (upd (upd Q (4 * m) b) (4 * m + 1) p) (4 * m + 2) v) (4 * m + 3) x (4 * m + 1) = p ∧ upd (upd (upd (upd Q (4 * m) b) (4 * m + 1) p) (4 * m + 2) v) (4 * m + 3) x (4 * m + 2) = v := by
  refine ⟨?_, ?_, ?_⟩
  · rw [pk_un (by omega), pk_un (by omega), pk_un (by omega), pk_us]
  · rw [pk_un (by omega), pk_un (by omega), pk_us]
  · rw [pk_un (by omega), pk_us]
theorem zup4n {Q : Nat → Int32} {m j : Nat} {b p v x : Int32} (h : j < 4 * m ∨ 4 * m + 4 ≤ j) : upd (upd (upd (upd Q (4 * m) b) (4 * m + 1) p) (4 * m + 2) v) (4 * m + 3) x j = Q j := by
  rw [pk_un (by omega), pk_un (by omega), pk_un (by omega), pk_un (by omega)]
theorem sPnt_b {nb np : Int} {c : zK3} {S : zS} {lw : Option ((Int → Int) × Int)} {p b : Int32} (h : zSb nb np S) (hp : 0 ≤ p.toInt ∧ p.toInt < np) (hb : 0 ≤ b.toInt ∧ b.toInt < nb) (hn : S.2.2.2.1.2.2.toInt < 20) : zSb nb np (sN_pnt c S lw p b) ∧ (sN_pnt c S lw p b).2.2.2.1.2.2.toInt = S.2.2.2.1.2.2.toInt + 1 := by
  have v := sShow_b (c := c) (lw := lw) (p := p) (b := b) (f := c.2.1 (4 * b.toInt.toNat)) h
  obtain ⟨h1, h2, h3, h4, h5, h6⟩ := h
  have e : (S.2.2.2.1.2.2 + 1).toInt = S.2.2.2.1.2.2.toInt + 1 := zadd rfl rfl (by decide) (by omega) (by omega)
  obtain ⟨Q, hQ⟩ : ∃ Q : Nat → Int32, Q = upd (upd (upd (upd S.2.2.2.2 (4 * S.2.2.2.1.2.2.toInt.toNat) b) (4 * S.2.2.2.1.2.2.toInt.toNat + 1) p) (4 * S.2.2.2.1.2.2.toInt.toNat + 2) (sV_pnt c S lw p b)) (4 * S.2.2.2.1.2.2.toInt.toNat + 3) S.2.2.2.1.2.1 := ⟨_, rfl⟩
  have eQ : (sN_pnt c S lw p b).2.2.2.2 = Q := hQ.symm
  refine ⟨⟨h1, h2, h3, h4, ?_, fun i hi => ?_⟩, e⟩
  · show 0 ≤ (S.2.2.2.1.2.2 + 1).toInt ∧ (S.2.2.2.1.2.2 + 1).toInt ≤ 20
    omega
  · have hi : (i : Int) < (S.2.2.2.1.2.2 + 1).toInt := hi
    rw [eQ]
    by_cases q : i = S.2.2.2.1.2.2.toInt.toNat
    · obtain ⟨u1, u2, u3⟩ := zup4 (Q := S.2.2.2.2) (m := S.2.2.2.1.2.2.toInt.toNat) (b := b) (p := p) (v := sV_pnt c S lw p b) (x := S.2.2.2.1.2.1)
      rw [← hQ] at u1 u2 u3
      rw [q, u1, u2, u3]
      exact ⟨hb, hp, v⟩
    · rw [hQ, zup4n (by omega), zup4n (by omega), zup4n (by omega)]
      exact h6 i (by omega)
theorem sMin_b {v : Int32} (h : 0 ≤ v.toInt) : 0 ≤ (sMin 9 v).toInt ∧ (sMin 9 v).toInt ≤ 9 := by
  unfold sMin
  have n9 : (9 : Int32).toInt = 9 := by decide
  by_cases q : v < 9
  · rw [if_pos q]
    have := Int32.lt_iff_toInt_lt.mp q
    omega
  · rw [if_neg q]
    omega
theorem sSetY_b {nb np : Int} {S : zS} {k : Nat} {x : Int32} (h : zSb nb np S) (hx : 0 ≤ x.toInt ∧ x.toInt ≤ 9) : zSb nb np (sSetY S k x) := by
  obtain ⟨h1, h2, h3, h4, h5, h6⟩ := h
  refine ⟨fun i hi => ?_, h2, h3, h4, h5, h6⟩
  show 0 ≤ (upd S.1 k x i).toInt ∧ (upd S.1 k x i).toInt ≤ 9
  by_cases q : i = k
  · rw [q, pk_us]
    exact hx
  · rw [pk_un q]
    exact h1 i hi
theorem sSetF_b {nb np : Int} {S : zS} {k : Nat} {x : Int32} (h : zSb nb np S) (hx : 0 ≤ x.toInt ∧ x.toInt ≤ 9) : zSb nb np (sSetF S k x) := by
  obtain ⟨h1, h2, h3, h4, h5, h6⟩ := h
  refine ⟨h1, fun i hi => ?_, h3, h4, h5, h6⟩
  show 0 ≤ (upd S.2.1 k x i).toInt ∧ (upd S.2.1 k x i).toInt ≤ 9
  by_cases q : i = k
  · rw [q, pk_us]
    exact hx
  · rw [pk_un q]
    exact h2 i hi
theorem sDr_b {x : Int64} {m : Int32} (h : 1 ≤ m.toInt) : 0 ≤ (sDr x m).toInt ∧ (sDr x m).toInt < m.toInt := zbel rfl rfl rfl rfl h
theorem sDp_b {nb np : Int32} {c : zK3} {lw : Option ((Int → Int) × Int)} {S : zS} {x : Int64} (h : zSb nb.toInt np.toInt S) (hb : 1 ≤ nb.toInt) (hp : 1 ≤ np.toInt) : zSb nb.toInt np.toInt (sDp nb np c lw S x) ∧ S.2.2.2.1.2.2.toInt ≤ (sDp nb np c lw S x).2.2.2.1.2.2.toInt ∧ (sDp nb np c lw S x).2.2.2.1.2.1 = S.2.2.2.1.2.1 := by
  unfold sDp
  by_cases q : S.2.2.2.1.1.toInt < (c.2.2 (4 * (sDr (sNx x) np).toInt.toNat + 1)).toInt ∨ 20 ≤ S.2.2.2.1.2.2.toInt
  · rw [if_pos q]
    exact ⟨h, Int.le_refl _, rfl⟩
  · rw [if_neg q]
    have z := sPnt_b (c := c) (lw := lw) h (sDr_b hp) (sDr_b hb) (p := sDr (sNx x) np) (b := sDr (sNx (sNx x)) nb) (by omega)
    exact ⟨z.1, by rw [z.2]; omega, rfl⟩
theorem sDq_b {nb br : Int32} {np : Int} {S : zS} {x : Int64} (h : zSb nb.toInt np S) (hb : 1 ≤ nb.toInt) : zSb nb.toInt np (sDq nb br S x) ∧ (sDq nb br S x).2.2.2.1 = S.2.2.2.1 := by
  unfold sDq
  by_cases q : br.toInt ≤ (sDr (sNx x) 10).toInt
  · rw [if_pos q]
    exact ⟨h, rfl⟩
  · rw [if_neg q]
    have d := sDr_b (x := sNx (sNx x)) hb
    have y := h.1 (sDr (sNx (sNx x)) nb).toInt.toNat (by omega)
    have e : (S.1 (sDr (sNx (sNx x)) nb).toInt.toNat + 1).toInt = (S.1 (sDr (sNx (sNx x)) nb).toInt.toNat).toInt + 1 := zadd rfl rfl (by decide) (by omega) (by omega)
    exact ⟨sSetY_b h (sMin_b (by omega)), rfl⟩
theorem sPass_b {nb np : Int} {S : zS} (h : zSb nb np S) (hm : S.2.2.2.1.2.1.toInt ≤ 998) : zSb nb np (sPass S) ∧ (sPass S).2.2.2.1.2.1.toInt = S.2.2.2.1.2.1.toInt + 1 ∧ (sPass S).2.2.2.1.2.2 = S.2.2.2.1.2.2 := by
  obtain ⟨a1, a2, a3, a4, a5, a6⟩ := h
  have e : (S.2.2.2.1.2.1 + 1).toInt = S.2.2.2.1.2.1.toInt + 1 := zadd rfl rfl (by decide) (by omega) (by omega)
  exact ⟨⟨a1, a2, a3, (show 0 ≤ (S.2.2.2.1.2.1 + 1).toInt ∧ (S.2.2.2.1.2.1 + 1).toInt ≤ 999 by omega), a5, a6⟩, e, rfl⟩
theorem sDs_b {nb np br : Int32} {c : zK3} {lw : Option ((Int → Int) × Int)} {U : zT × Int64} (a : zTb5 nb.toInt np.toInt U.1) (hb : 1 ≤ nb.toInt) (hp : 1 ≤ np.toInt) (hm : U.1.1.2.2.2.1.2.1.toInt ≤ 998) : zTb5 nb.toInt np.toInt (sDs nb np br c lw U).1 ∧ (sDs nb np br c lw U).1.1.2.2.2.1.2.1.toInt = U.1.1.2.2.2.1.2.1.toInt + 1 := by
  obtain ⟨d1, d2, d3⟩ := sDp_b (c := c) (lw := lw) (x := U.2) a.2.2.1 hb hp
  obtain ⟨g1, g2⟩ := sDq_b (br := br) (x := sNx (sNx U.2)) d1 hb
  unfold sDs
  generalize sDq nb br (sDp nb np c lw U.1.1 U.2) (sNx (sNx U.2)) = S2 at g1 g2 ⊢
  generalize sDp nb np c lw U.1.1 U.2 = S1 at d1 d2 d3 g2
  have e1 : S2.2.2.2.1.2.1 = U.1.1.2.2.2.1.2.1 := by rw [g2, d3]
  have e2 : S2.2.2.2.1.2.2 = S1.2.2.2.1.2.2 := by rw [g2]
  obtain ⟨p1, p2, p3⟩ := sPass_b g1 (by rw [e1]; exact hm)
  generalize sPass S2 = S3 at p1 p2 p3 ⊢
  refine ⟨sAct_b a p1 ?_, ?_⟩
  · rw [p3, e2]
    exact d2
  · show S3.2.2.2.1.2.1.toInt = _
    rw [p2, e1]
theorem sDec_b {nb np br : Int32} {c : zK3} {lw : Option ((Int → Int) × Int)} {T : zT} {x : Int64} (h : zTb5 nb.toInt np.toInt T) (hb : 1 ≤ nb.toInt) (hp : 1 ≤ np.toInt) : ∀ (k : Nat), (k : Int) ≤ 999 - T.1.2.2.2.1.2.1.toInt → zTb5 nb.toInt np.toInt (sDec nb np br c lw T x k).1 ∧ (sDec nb np br c lw T x k).1.1.2.2.2.1.2.1.toInt = T.1.2.2.2.1.2.1.toInt + (k : Int) := by
  intro k
  induction k with
  | zero => intro _; exact ⟨h, by show T.1.2.2.2.1.2.1.toInt = T.1.2.2.2.1.2.1.toInt + ((0 : Nat) : Int); omega⟩
  | succ k ih =>
    intro hk
    obtain ⟨a, b⟩ := ih (by omega)
    have hs : sDec nb np br c lw T x (k + 1) = sDs nb np br c lw (sDec nb np br c lw T x k) := rfl
    rw [hs]
    generalize sDec nb np br c lw T x k = U at a b ⊢
    obtain ⟨z1, z2⟩ := sDs_b (br := br) (c := c) (lw := lw) a hb hp (by omega)
    exact ⟨z1, by rw [z2, b]; omega⟩
theorem zKc_0 {nb np : Int} {P W : Nat → Int32} {pl : Int32} : zKc nb np [] P W pl 0 := ⟨by decide, fun j K hj => by simp at hj⟩
