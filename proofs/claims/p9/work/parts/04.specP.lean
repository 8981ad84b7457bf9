abbrev zT : Type := zS × List zS × (Nat → Int32)
def zSb (nb np : Int) (S : zS) : Prop := (∀ i : Nat, (i : Int) < nb → 0 ≤ (S.1 i).toInt ∧ (S.1 i).toInt ≤ 9) ∧ (∀ i : Nat, (i : Int) < np → 0 ≤ (S.2.1 i).toInt ∧ (S.2.1 i).toInt ≤ 9) ∧ (-1 ≤ S.2.2.1.2.2.toInt ∧ S.2.2.1.2.2.toInt < nb) ∧ (0 ≤ S.2.2.2.1.2.1.toInt ∧ S.2.2.2.1.2.1.toInt ≤ 999) ∧ (0 ≤ S.2.2.2.1.2.2.toInt ∧ S.2.2.2.1.2.2.toInt ≤ 20) ∧ ∀ i : Nat, (i : Int) < S.2.2.2.1.2.2.toInt → (0 ≤ (S.2.2.2.2 (4 * i)).toInt ∧ (S.2.2.2.2 (4 * i)).toInt < nb) ∧ (0 ≤ (S.2.2.2.2 (4 * i + 1)).toInt ∧ (S.2.2.2.2 (4 * i + 1)).toInt < np) ∧ 0 ≤ (S.2.2.2.2 (4 * i + 2)).toInt ∧ (S.2.2.2.2 (4 * i + 2)).toInt ≤ 9
def zTb5 (nb np : Int) (T : zT) : Prop := (0 ≤ nb ∧ nb ≤ 6) ∧ (0 ≤ np ∧ np ≤ 5) ∧ zSb nb np T.1 ∧ zMon T.1.2.2.2.1.2.2.toInt T.2.1 ∧ ∀ K ∈ T.2.1, zSb nb np K
def zKo (nb np : Int) (c : zK3) (T : zT) : Prop := (zKb nb np c ∧ (nb = 0 ∨ 1 ≤ np)) ∧ zTb5 nb np T
def zTc (nb np : Int) (T : zT) (Y F P : Nat → Int32) (pn lt sh wd pu mo : Int32) (W : Nat → Int32) (pl cn : Int32) (rf : Nat → Int32) : Prop := zSc nb np T.1 Y F P pn lt sh wd pu mo ∧ zKc nb np T.2.1 P W pl cn ∧ ∀ i : Nat, i < 5 → rf i = T.2.2 i
def zTr (nb np : Int) (T : zT) (N f : Nat → Int32) (ac : Int32) (rf : Nat → Int32) : Prop := zSr nb np T.1 N ∧ zKr nb np T.2.1 f ac ∧ ∀ i : Nat, i < 5 → rf i = T.2.2 i
def sRef (T : zT) (w : Int) : zT := (T.1, T.2.1, upd T.2.2 w.toNat (T.2.2 w.toNat + 1))
def sAct (T : zT) (S : zS) : zT := (S, sKeep T.1 T.2.1, T.2.2)
def sDo (w : Int) (T : zT) (S : zS) : zT := if w = -1 then sAct T S else sRef T w
def sA (w : Int) (v : Int32) : Int32 := if w = -1 then v else -1
def zRf (f f' : Nat → Int32) (w : Int) : Prop := ∀ g : Nat → Int32, (∀ i : Nat, i < 5 → f i = g i) → ∀ i : Nat, i < 5 → f' i = upd g w.toNat (g w.toNat + 1) i
theorem zRf_mk {f f' : Nat → Int32} {w v x : Int32} (h0 : 0 ≤ w.toInt) (h5 : w.toInt ≤ 4) (ev : v = f w.toNatClampNeg) (ex : x = v + 1) (e : f' = upd f w.toNatClampNeg x) : zRf f f' w.toInt := by
  intro g h i hi
  have hw : w.toNatClampNeg = w.toInt.toNat := rfl
  rw [e, ex, ev, hw, h w.toInt.toNat (by omega)]
  exact zupI (fun _ => h i hi)
theorem zActR {nb np : Int} {T : zT} {S : zS} {Y F P W rf rf' : Nat → Int32} {pn lt sh wd pu mo pl cn v : Int32} {w x : Int} (hw : w = x) (hx : 0 ≤ x) (h : zTc nb np T Y F P pn lt sh wd pu mo W pl cn rf) (e : zRf rf rf' x) : (-1 : Int32) = sA w v ∧ zTc nb np (sDo w T S) Y F P pn lt sh wd pu mo W pl cn rf' := by
  have q : ¬ w = -1 := by omega
  unfold sA sDo
  rw [if_neg q, if_neg q]
  refine ⟨rfl, h.1, h.2.1, ?_⟩
  rw [hw]
  exact e _ h.2.2
theorem zSc_pn {nb np : Int} {S : zS} {Y F P : Nat → Int32} {pn lt sh wd pu mo : Int32} (h : zSc nb np S Y F P pn lt sh wd pu mo) : S.2.2.2.1.2.2 = pn := congrArg (fun t : Int32 × Int32 × Int32 => t.2.2) h.2.2.2.1
theorem zSc_mo {nb np : Int} {S : zS} {Y F P : Nat → Int32} {pn lt sh wd pu mo : Int32} (h : zSc nb np S Y F P pn lt sh wd pu mo) : S.2.2.2.1.2.1 = mo := congrArg (fun t : Int32 × Int32 × Int32 => t.2.1) h.2.2.2.1
theorem zSc_pu {nb np : Int} {S : zS} {Y F P : Nat → Int32} {pn lt sh wd pu mo : Int32} (h : zSc nb np S Y F P pn lt sh wd pu mo) : S.2.2.2.1.1 = pu := congrArg (fun t : Int32 × Int32 × Int32 => t.1) h.2.2.2.1
theorem zSc_lt {nb np : Int} {S : zS} {Y F P : Nat → Int32} {pn lt sh wd pu mo : Int32} (h : zSc nb np S Y F P pn lt sh wd pu mo) : S.2.2.1.1 = lt := congrArg (fun t : Int32 × Int32 × Int32 => t.1) h.2.2.1
theorem zSc_sh {nb np : Int} {S : zS} {Y F P : Nat → Int32} {pn lt sh wd pu mo : Int32} (h : zSc nb np S Y F P pn lt sh wd pu mo) : S.2.2.1.2.1 = sh := congrArg (fun t : Int32 × Int32 × Int32 => t.2.1) h.2.2.1
theorem zSc_wd {nb np : Int} {S : zS} {Y F P : Nat → Int32} {pn lt sh wd pu mo : Int32} (h : zSc nb np S Y F P pn lt sh wd pu mo) : S.2.2.1.2.2 = wd := congrArg (fun t : Int32 × Int32 × Int32 => t.2.2) h.2.2.1
theorem zMon_keep {m : Int} {T : zT} (h : zMon T.1.2.2.2.1.2.2.toInt T.2.1) (hm : T.1.2.2.2.1.2.2.toInt ≤ m) : zMon m (sKeep T.1 T.2.1) := zMon_take (l := T.1 :: T.2.1) 40 ⟨hm, h⟩
theorem zActK {nb np : Int} {T : zT} {S' : zS} {Y F P W W' Y' F' P' rf : Nat → Int32} {pn lt sh wd pu mo pl cn pn' lt' sh' wd' pu' mo' pl' cn' : Int32} (hb : zTb5 nb np T) (h : zTc nb np T Y F P pn lt sh wd pu mo W pl cn rf) (k : zKc nb np (sKeep T.1 T.2.1) P W' pl' cn') (s : zSc nb np S' Y' F' P' pn' lt' sh' wd' pu' mo') (hP : ∀ i : Nat, (i : Int) < 4 * pn.toInt → P' i = P i) : zTc nb np (sAct T S') Y' F' P' pn' lt' sh' wd' pu' mo' W' pl' cn' rf := by
  refine ⟨s, zKc_P k (m := pn.toInt) ?_ hP, h.2.2⟩
  exact zMon_keep hb.2.2.2.1 (by rw [zSc_pn h.1]; exact Int.le_refl _)
theorem zActA {nb np : Int} {T : zT} {S' : zS} {Y F P W W' Y' F' P' rf : Nat → Int32} {pn lt sh wd pu mo pl cn pn' lt' sh' wd' pu' mo' pl' cn' r v : Int32} {w : Int} (hw : w = -1) (hb : zTb5 nb np T) (h : zTc nb np T Y F P pn lt sh wd pu mo W pl cn rf) (k : zKc nb np (sKeep T.1 T.2.1) P W' pl' cn') (s : zSc nb np S' Y' F' P' pn' lt' sh' wd' pu' mo') (hP : ∀ i : Nat, (i : Int) < 4 * pn.toInt → P' i = P i) (e : r = v) : r = sA w v ∧ zTc nb np (sDo w T S') Y' F' P' pn' lt' sh' wd' pu' mo' W' pl' cn' rf := by
  unfold sA sDo
  rw [if_pos hw, if_pos hw]
  exact ⟨e, zActK hb h k s hP⟩
theorem sAct_b {nb np : Int} {T : zT} {S : zS} (h : zTb5 nb np T) (hS : zSb nb np S) (hm : T.1.2.2.2.1.2.2.toInt ≤ S.2.2.2.1.2.2.toInt) : zTb5 nb np (sAct T S) := by
  obtain ⟨h1, h2, h3, h4, h5⟩ := h
  refine ⟨h1, h2, hS, zMon_keep h4 hm, fun K hK => ?_⟩
  have hK : K ∈ (T.1 :: T.2.1).take 40 := hK
  rcases List.mem_cons.mp (List.mem_of_mem_take hK) with q | q
  · rw [q]
    exact h3
  · exact h5 K q
theorem sDo_b {nb np : Int} {T : zT} {S : zS} {w : Int} (h : zTb5 nb np T) (hS : w = -1 → zSb nb np S ∧ T.1.2.2.2.1.2.2.toInt ≤ S.2.2.2.1.2.2.toInt) : zTb5 nb np (sDo w T S) := by
  unfold sDo
  by_cases q : w = -1
  · rw [if_pos q]
    exact sAct_b h (hS q).1 (hS q).2
  · rw [if_neg q]
    exact h
def sMin (a b : Int32) : Int32 := if b < a then b else a
def sW_pay (nb : Int) (S : zS) (b n : Int32) : Int := if ¬ (0 ≤ b.toInt ∧ b.toInt < nb) then 0 else if ¬ (-9 ≤ n.toInt ∧ n.toInt ≤ 9) ∨ n.toInt = 0 ∨ ¬ (0 ≤ (S.1 b.toInt.toNat).toInt + n.toInt ∧ (S.1 b.toInt.toNat).toInt + n.toInt ≤ 9) then 1 else -1
def sW_thr (np : Int) (S : zS) (p : Int32) : Int := if ¬ (0 ≤ p.toInt ∧ p.toInt < np) then 0 else if 9 ≤ (S.2.1 p.toInt.toNat).toInt then 1 else -1
def sW_wed (nb : Int) (S : zS) (b : Int32) : Int := if ¬ (0 ≤ b.toInt ∧ b.toInt < nb) then 0 else if ¬ S.2.2.1.2.2.toInt = -1 then 3 else -1
def sW_tld (nb : Int) (S : zS) (bits b : Int32) (coins : Int) : Int := if ¬ (0 ≤ b.toInt ∧ b.toInt < nb) then 0 else if (cBt bits b).toInt = 1 then 1 else if S.2.2.2.1.1.toInt < coins then 2 else -1
def sN_ltr (S : zS) (b : Int32) : zS := (S.1, S.2.1, (S.2.2.1.1 ||| (1 <<< (b &&& 31)), S.2.2.1.2.1, S.2.2.1.2.2), (S.2.2.2.1.1 - 2, S.2.2.2.1.2.1, S.2.2.2.1.2.2), S.2.2.2.2)
def sN_sho (S : zS) (b : Int32) : zS := (S.1, S.2.1, (S.2.2.1.1, S.2.2.1.2.1 ||| (1 <<< (b &&& 31)), S.2.2.1.2.2), (S.2.2.2.1.1 - 1, S.2.2.2.1.2.1, S.2.2.2.1.2.2), S.2.2.2.2)
def sN_wed (c : zK3) (S : zS) (b : Int32) : zS := (S.1, S.2.1, (S.2.2.1.1, S.2.2.1.2.1, b), (sMin 999 (S.2.2.2.1.1 + c.2.1 (4 * b.toInt.toNat + 1) / 10), S.2.2.2.1.2.1, S.2.2.2.1.2.2), S.2.2.2.2)
def zCnt (P : Nat → Int32) (b : Int32) : Nat → Int32
  | 0 => 0
  | k + 1 => if (P (4 * k)).toInt = b.toInt then zCnt P b k + 1 else zCnt P b k
def zSum (P : Nat → Int32) (b : Int32) : Nat → Int32
  | 0 => 0
  | k + 1 => if (P (4 * k)).toInt = b.toInt then zSum P b k + P (4 * k + 2) else zSum P b k
def zLkd (P : Nat → Int32) (b : Int32) (k : Nat) : Int32 := if (zCnt P b k).toInt = 0 then 0 else zSum P b k / zCnt P b k
theorem zCnt_c {P P' : Nat → Int32} {b : Int32} : ∀ {k : Nat}, (∀ i : Nat, i < 4 * k → P i = P' i) → zCnt P b k = zCnt P' b k := by
  intro k
  induction k with
  | zero => intro _; rfl
  | succ k ih =>
    intro h
    unfold zCnt
    rw [h (4 * k) (by omega), ih (fun i hi => h i (by omega))]
theorem zSum_c {P P' : Nat → Int32} {b : Int32} : ∀ {k : Nat}, (∀ i : Nat, i < 4 * k → P i = P' i) → zSum P b k = zSum P' b k := by
  intro k
  induction k with
  | zero => intro _; rfl
  | succ k ih =>
    intro h
    unfold zSum
    rw [h (4 * k) (by omega), h (4 * k + 2) (by omega), ih (fun i hi => h i (by omega))]
theorem zLat_c {P P' : Nat → Int32} {p : Int32} : ∀ {k : Nat}, (∀ i : Nat, i < 4 * k → P i = P' i) → zLat P p k = zLat P' p k := by
  intro k
  induction k with
  | zero => intro _; rfl
  | succ k ih =>
    intro h
    unfold zLat
    rw [h (4 * k + 1) (by omega), h (4 * k + 2) (by omega), ih (fun i hi => h i (by omega))]
theorem zLkd_c {P P' : Nat → Int32} {b : Int32} {k : Nat} (h : ∀ i : Nat, i < 4 * k → P i = P' i) : zLkd P b k = zLkd P' b k := by
  unfold zLkd
  rw [zCnt_c h, zSum_c h]
theorem zSc_P {nb np : Int} {S : zS} {Y F P : Nat → Int32} {pn lt sh wd pu mo : Int32} (h : zSc nb np S Y F P pn lt sh wd pu mo) : ∀ i : Nat, i < 4 * pn.toInt.toNat → P i = S.2.2.2.2 i := fun i hi => h.2.2.2.2 i (by omega)
theorem zCntY {P : Nat → Int32} {b i i' x x' v : Int32} (h : x = zCnt P b i.toInt.toNat) (h0 : 0 ≤ i.toInt) (hi : i'.toInt = i.toInt + 1) (hv : v = P (4 * i.toInt.toNat)) (hc : v.toInt = b.toInt) (e : x' = x + 1) : x' = zCnt P b i'.toInt.toNat := by
  rw [show i'.toInt.toNat = i.toInt.toNat + 1 by omega]
  unfold zCnt
  rw [← hv, if_pos hc, e, h]
theorem zCntN {P : Nat → Int32} {b i i' x v : Int32} (h : x = zCnt P b i.toInt.toNat) (h0 : 0 ≤ i.toInt) (hi : i'.toInt = i.toInt + 1) (hv : v = P (4 * i.toInt.toNat)) (hc : ¬ v.toInt = b.toInt) : x = zCnt P b i'.toInt.toNat := by
  rw [show i'.toInt.toNat = i.toInt.toNat + 1 by omega]
  unfold zCnt
  rw [← hv, if_neg hc]
  exact h
theorem zSumY {P : Nat → Int32} {b i i' x x' v u : Int32} (h : x = zSum P b i.toInt.toNat) (h0 : 0 ≤ i.toInt) (hi : i'.toInt = i.toInt + 1) (hv : v = P (4 * i.toInt.toNat)) (hu : u = P (4 * i.toInt.toNat + 2)) (hc : v.toInt = b.toInt) (e : x' = x + u) : x' = zSum P b i'.toInt.toNat := by
  rw [show i'.toInt.toNat = i.toInt.toNat + 1 by omega]
  unfold zSum
  rw [← hv, ← hu, if_pos hc, e, h]
theorem zSumN {P : Nat → Int32} {b i i' x v : Int32} (h : x = zSum P b i.toInt.toNat) (h0 : 0 ≤ i.toInt) (hi : i'.toInt = i.toInt + 1) (hv : v = P (4 * i.toInt.toNat)) (hc : ¬ v.toInt = b.toInt) : x = zSum P b i'.toInt.toNat := by
  rw [show i'.toInt.toNat = i.toInt.toNat + 1 by omega]
  unfold zSum
  rw [← hv, if_neg hc]
  exact h
def sW_ann (nb : Int) (c : zK3) (S : zS) : Int := if nb ≤ 0 then 0 else if S.2.2.1.2.2.toInt = -1 then 3 else if (zLkd S.2.2.2.2 S.2.2.1.2.2 S.2.2.2.1.2.2.toInt.toNat - c.2.1 (4 * S.2.2.1.2.2.toInt.toNat)).toInt < 3 then 4 else -1
def sN_ann (S : zS) : zS := (S.1, S.2.1, (S.2.2.1.1, S.2.2.1.2.1, -1), S.2.2.2.1, S.2.2.2.2)
def sPass (S : zS) : zS := (S.1, S.2.1, S.2.2.1, (sMin 999 (S.2.2.2.1.1 + 1), S.2.2.2.1.2.1 + 1, S.2.2.2.1.2.2), S.2.2.2.2)
def sMon (T : zT) : Nat → zT
  | 0 => T
  | k + 1 => sAct (sMon T k) (sPass (sMon T k).1)
def sW_mon (nb : Int) (S : zS) (n : Int32) : Int := if nb ≤ 0 then 0 else if ¬ (1 ≤ n.toInt ∧ n.toInt ≤ 60) then 1 else if 999 < (S.2.2.2.1.2.1 + n).toInt then 4 else -1
def sT_mon (nb : Int) (T : zT) (n : Int32) : zT := if sW_mon nb T.1 n = -1 then sMon T n.toInt.toNat else sRef T (sW_mon nb T.1 n)
def sT_und (T : zT) : zT := (T.2.1.headD T.1, T.2.1.tail, T.2.2)
def sV_und (T : zT) : Int := (T.2.1.length : Int) - 1
def sShow (c : zK3) (S : zS) (lw : Option ((Int → Int) × Int)) (p b f : Int32) : Int32 := zSh (c.2.2 (4 * p.toInt.toNat + 3)) (zLat S.2.2.2.2 p S.2.2.2.1.2.2.toInt.toNat) (zLkv lw f (c.2.1 (4 * b.toInt.toNat + 2)) (S.1 b.toInt.toNat) (c.2.2 (4 * p.toInt.toNat)) (S.2.1 p.toInt.toNat) S.2.2.2.1.2.1)
def sV_pnt (c : zK3) (S : zS) (lw : Option ((Int → Int) × Int)) (p b : Int32) : Int32 := sShow c S lw p b (c.2.1 (4 * b.toInt.toNat))
def sN_pnt (c : zK3) (S : zS) (lw : Option ((Int → Int) × Int)) (p b : Int32) : zS := sSetB (sHang S b p (sV_pnt c S lw p b)) (S.2.2.2.1.1 - c.2.2 (4 * p.toInt.toNat + 1), S.2.2.2.1.2.1, S.2.2.2.1.2.2 + 1)
def sW_pnt (nb np : Int) (c : zK3) (S : zS) (p b : Int32) : Int := if ¬ ((0 ≤ p.toInt ∧ p.toInt < np) ∧ 0 ≤ b.toInt ∧ b.toInt < nb) then 0 else if S.2.2.2.1.1.toInt < (c.2.2 (4 * p.toInt.toNat + 1)).toInt then 2 else if 20 ≤ S.2.2.2.1.2.2.toInt then 4 else -1
def sNx (x : Int64) : Int64 := x * 6364136223846793005 + 1442695040888963407
def sDr (x : Int64) (m : Int32) : Int32 := ((x.toUInt64 >>> ((33 : Int32).toInt64.toUInt64 &&& Int64.toUInt64 63)).toInt64 - (x.toUInt64 >>> ((33 : Int32).toInt64.toUInt64 &&& Int64.toUInt64 63)).toInt64 / m.toInt64 * m.toInt64).toInt32
def sDp (nb np : Int32) (c : zK3) (lw : Option ((Int → Int) × Int)) (S : zS) (x : Int64) : zS := if S.2.2.2.1.1.toInt < (c.2.2 (4 * (sDr (sNx x) np).toInt.toNat + 1)).toInt ∨ 20 ≤ S.2.2.2.1.2.2.toInt then S else sN_pnt c S lw (sDr (sNx x) np) (sDr (sNx (sNx x)) nb)
def sDq (nb br : Int32) (S : zS) (x : Int64) : zS := if br.toInt ≤ (sDr (sNx x) 10).toInt then S else sSetY S (sDr (sNx (sNx x)) nb).toInt.toNat (sMin 9 (S.1 (sDr (sNx (sNx x)) nb).toInt.toNat + 1))
def sDx (br : Int32) (x : Int64) : Int64 := if br.toInt ≤ (sDr (sNx x) 10).toInt then sNx x else sNx (sNx x)
def sDs (nb np br : Int32) (c : zK3) (lw : Option ((Int → Int) × Int)) (U : zT × Int64) : zT × Int64 := (sAct U.1 (sPass (sDq nb br (sDp nb np c lw U.1.1 U.2) (sNx (sNx U.2)))), sDx br (sNx (sNx U.2)))
def sDec (nb np br : Int32) (c : zK3) (lw : Option ((Int → Int) × Int)) (T : zT) (x : Int64) : Nat → zT × Int64
  | 0 => (T, x)
  | k + 1 => sDs nb np br c lw (sDec nb np br c lw T x k)
abbrev sQ_dec (nb : Int) (S : zS) (n : Int32) : Prop := 0 < nb ∧ 1 ≤ n.toInt ∧ n.toInt ≤ 60 ∧ (S.2.2.2.1.2.1 + n).toInt ≤ 999
def sBeg (c : zK3) : zS := (fun i => c.2.1 (4 * i + 3), fun i => c.2.2 (4 * i + 2), (0, 0, -1), (c.1 0, 0, 0), fun _ => 0)
