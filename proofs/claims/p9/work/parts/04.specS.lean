def sV_rul (nb : Int) (c : zK3) (S : zS) (w : Int32) : Int32 := if nb ≤ 0 then -1 else if w.toInt = 0 then S.2.2.2.1.1 else if w.toInt = 1 then c.1 1 else if w.toInt = 2 then c.1 2 else -1
def sV_pai (np : Int) (c : zK3) (S : zS) (p w : Int32) : Int32 := if ¬ (0 ≤ p.toInt ∧ p.toInt < np) then -1 else if w.toInt = 0 then c.2.2 (4 * p.toInt.toNat) else if w.toInt = 1 then c.2.2 (4 * p.toInt.toNat + 1) else if w.toInt = 2 then S.2.1 p.toInt.toNat else if w.toInt = 3 then c.2.2 (4 * p.toInt.toNat + 3) else -1
def sV_sta (T : zT) (w : Int32) : Int32 := if 0 ≤ w.toInt ∧ w.toInt ≤ 4 then T.2.2 w.toInt.toNat else -1
def sV_por (S : zS) (i w : Int32) : Int32 := if (0 ≤ i.toInt ∧ i.toInt < S.2.2.2.1.2.2.toInt) ∧ 0 ≤ w.toInt ∧ w.toInt ≤ 3 then S.2.2.2.2 (4 * (S.2.2.2.1.2.2.toInt - 1 - i.toInt).toNat + w.toInt.toNat) else -1
def sV_fla (nb np : Int) (S : zS) (p b : Int32) : Int32 := if (0 ≤ p.toInt ∧ p.toInt < np) ∧ 0 ≤ b.toInt ∧ b.toInt < nb then zFl (S.2.1 p.toInt.toNat) (S.1 b.toInt.toNat) else -1
def sV_sho (nb np : Int) (c : zK3) (S : zS) (lw : Option ((Int → Int) × Int)) (p b f : Int32) : Int32 := if ((0 ≤ p.toInt ∧ p.toInt < np) ∧ 0 ≤ b.toInt ∧ b.toInt < nb) ∧ 0 ≤ f.toInt ∧ f.toInt ≤ 9 then sShow c S lw p b f else -1
def sV_tru (nb np : Int) (S : zS) (p b : Int32) : Int32 := if (0 ≤ p.toInt ∧ p.toInt < np) ∧ 0 ≤ b.toInt ∧ b.toInt < nb then (if (S.1 b.toInt.toNat).toInt ≤ (S.2.1 p.toInt.toNat * zFl (S.2.1 p.toInt.toNat) (S.1 b.toInt.toNat) / 3).toInt then 1 else 0) else -1
def sV_loo (nb : Int) (c : zK3) (S : zS) (b : Int32) : Int32 := if (0 ≤ b.toInt ∧ b.toInt < nb) ∧ ¬ (zCnt S.2.2.2.2 b S.2.2.2.1.2.2.toInt.toNat).toInt = 0 then zLkd S.2.2.2.2 b S.2.2.2.1.2.2.toInt.toNat - c.2.1 (4 * b.toInt.toNat) else -1000000
def sV_see (nb : Int) (S : zS) (b : Int32) : Int32 := if 0 ≤ b.toInt ∧ b.toInt < nb then zCnt S.2.2.2.2 b S.2.2.2.1.2.2.toInt.toNat else -1
def sV_sav (nb : Int) (S : zS) (n : Int32) : Int32 := if 0 < nb ∧ 1 ≤ n.toInt ∧ n.toInt ≤ 999 then (if 0 < n - S.2.2.2.1.1 then n - S.2.2.2.1.1 else 0) else -1
def sV_aff (np : Int) (c : zK3) (S : zS) (p : Int32) : Int32 := if 0 ≤ p.toInt ∧ p.toInt < np then (if (c.2.2 (4 * p.toInt.toNat + 1)).toInt = 0 then 20 - S.2.2.2.1.2.2 else sMin (20 - S.2.2.2.1.2.2) (S.2.2.2.1.1 / c.2.2 (4 * p.toInt.toNat + 1))) else -1
def sV_cou (nb np lw br ho : Int32) (n : Int) (T : zT) (w : Int32) : Int := if w.toInt = 0 then nb.toInt else if w.toInt = 1 then np.toInt else if w.toInt = 2 then lw.toInt else if w.toInt = 3 then n else if w.toInt = 4 then ho.toInt else if w.toInt = 5 then T.1.2.2.2.1.2.1.toInt else if w.toInt = 6 then T.1.2.2.1.2.2.toInt else if w.toInt = 7 then T.1.2.2.2.1.2.2.toInt else if w.toInt = 8 then br.toInt else if w.toInt = 9 then (T.2.1.length : Int) else -1000000
def sEch (fear ch : Int32) : Int32 := if 5 < fear.toInt then ch / 2 else ch
def sHea (c : Int32) : Nat → Int64
  | 0 => 1000000000
  | k + 1 => sHea c k - sHea c k * c.toInt64 / 100
theorem zHeaS {c i i' : Int32} {x a b d y : Int64} (h : x = sHea c i.toInt.toNat) (h0 : 0 ≤ i.toInt) (hi : i'.toInt = i.toInt + 1) (e1 : a = c.toInt64) (e2 : b = x * a) (e3 : d = b / 100) (e4 : y = x - d) : y = sHea c i'.toInt.toNat := by
  rw [show i'.toInt.toNat = i.toInt.toNat + 1 by omega]
  show y = sHea c i.toInt.toNat - sHea c i.toInt.toNat * c.toInt64 / 100
  rw [e4, e3, e2, e1, h]
def sV_hea (np : Int) (S : zS) (p n ch : Int32) : Int32 := if (0 ≤ p.toInt ∧ p.toInt < np) ∧ (0 ≤ n.toInt ∧ n.toInt ≤ 20) ∧ 0 ≤ ch.toInt ∧ ch.toInt ≤ 100 then (sHea (sEch (S.2.1 p.toInt.toNat) ch) n.toInt.toNat).toInt32 else -1
def sWho (c : zK3) (S : zS) (lw : Option ((Int → Int) × Int)) (p v : Int32) : Nat → Int32
  | 0 => 0
  | k + 1 => if (sShow c S lw p (Int32.ofNat k) (c.2.1 (4 * k))).toInt = v.toInt then sWho c S lw p v k ||| (1 <<< (Int32.ofNat k &&& 31)) else sWho c S lw p v k
theorem zWhoY {c : zK3} {S : zS} {lw : Option ((Int → Int) × Int)} {p v i i' x x' s u : Int32} (h : x = sWho c S lw p v i.toInt.toNat) (h0 : 0 ≤ i.toInt) (hi : i'.toInt = i.toInt + 1) (hu : u = sShow c S lw p i (c.2.1 (4 * i.toInt.toNat))) (hc : u.toInt = v.toInt) (es : s = 1 <<< (i &&& 31)) (e : x' = x ||| s) : x' = sWho c S lw p v i'.toInt.toNat := by
  rw [show i'.toInt.toNat = i.toInt.toNat + 1 by omega]
  unfold sWho
  rw [← zk32 h0, ← hu, if_pos hc, e, es, h]
theorem zWhoN {c : zK3} {S : zS} {lw : Option ((Int → Int) × Int)} {p v i i' x u : Int32} (h : x = sWho c S lw p v i.toInt.toNat) (h0 : 0 ≤ i.toInt) (hi : i'.toInt = i.toInt + 1) (hu : u = sShow c S lw p i (c.2.1 (4 * i.toInt.toNat))) (hc : ¬ u.toInt = v.toInt) : x = sWho c S lw p v i'.toInt.toNat := by
  rw [show i'.toInt.toNat = i.toInt.toNat + 1 by omega]
  unfold sWho
  rw [← zk32 h0, ← hu, if_neg hc]
  exact h
def sV_who (nb np : Int) (c : zK3) (S : zS) (lw : Option ((Int → Int) × Int)) (p v : Int32) : Int32 := if (0 ≤ p.toInt ∧ p.toInt < np) ∧ 0 ≤ v.toInt ∧ v.toInt ≤ 9 then sWho c S lw p v nb.toNat else -1
def zFit (lt sh face : Int32) : Int32 := (if lt.toInt = 1 then 1023 &&& (if 5 ≤ face.toInt then 992 else -993) else 1023) &&& (if sh.toInt = 1 then (if (face - face / 2 * 2).toInt = 1 then 682 else -683) else -1)
def zFf (lt sh face f : Int32) : Prop := (lt.toInt = 1 → (5 ≤ f.toInt ↔ 5 ≤ face.toInt)) ∧ (sh.toInt = 1 → (f - f / 2 * 2).toInt = (face - face / 2 * 2).toInt)
def zFts (lt sh face : Int32) : Nat → Int32
  | 0 => 0
  | k + 1 => if (lt.toInt = 1 → (5 ≤ (Int32.ofNat k).toInt ↔ 5 ≤ face.toInt)) ∧ (sh.toInt = 1 → (Int32.ofNat k - Int32.ofNat k / 2 * 2).toInt = (face - face / 2 * 2).toInt) then zFts lt sh face k ||| (1 <<< (Int32.ofNat k &&& 31)) else zFts lt sh face k
theorem zFts_0 : ∀ face : Fin 10, zFts 0 0 (Int32.ofNat face.val) 10 = zFit 0 0 (Int32.ofNat face.val) ∧ zFts 0 1 (Int32.ofNat face.val) 10 = zFit 0 1 (Int32.ofNat face.val) ∧ zFts 1 0 (Int32.ofNat face.val) 10 = zFit 1 0 (Int32.ofNat face.val) ∧ zFts 1 1 (Int32.ofNat face.val) 10 = zFit 1 1 (Int32.ofNat face.val) := by decide +kernel
theorem zFts_e {lt sh face : Int32} (hl : lt.toInt = 0 ∨ lt.toInt = 1) (hs : sh.toInt = 0 ∨ sh.toInt = 1) (h0 : 0 ≤ face.toInt) (h9 : face.toInt ≤ 9) : zFts lt sh face 10 = zFit lt sh face := by
  have z := zFts_0 ⟨face.toInt.toNat, by omega⟩
  dsimp only at z
  rw [← zk32 h0] at z
  rcases hl with l | l <;> rcases hs with q | q
  · rw [show lt = 0 from Int32.toInt_inj.mp (l.trans (by decide)), show sh = 0 from Int32.toInt_inj.mp (q.trans (by decide))]
    exact z.1
  · rw [show lt = 0 from Int32.toInt_inj.mp (l.trans (by decide)), show sh = 1 from Int32.toInt_inj.mp (q.trans (by decide))]
    exact z.2.1
  · rw [show lt = 1 from Int32.toInt_inj.mp (l.trans (by decide)), show sh = 0 from Int32.toInt_inj.mp (q.trans (by decide))]
    exact z.2.2.1
  · rw [show lt = 1 from Int32.toInt_inj.mp (l.trans (by decide)), show sh = 1 from Int32.toInt_inj.mp (q.trans (by decide))]
    exact z.2.2.2
theorem zFtsS {lt sh face f f' x x' s r : Int32} (h : x = zFts lt sh face f.toInt.toNat) (h0 : 0 ≤ f.toInt) (hf : f'.toInt = f.toInt + 1) (F : (r.toInt = 1 ∧ zFf lt sh face f) ∨ (r.toInt = 0 ∧ ¬ zFf lt sh face f)) (hs : (r.toInt = 0 ∧ x' = x ||| 0) ∨ (¬ r.toInt = 0 ∧ s = 1 <<< (f &&& 31) ∧ x' = x ||| s)) : x' = zFts lt sh face f'.toInt.toNat := by
  rw [show f'.toInt.toNat = f.toInt.toNat + 1 by omega]
  unfold zFts
  rw [← zk32 h0]
  rcases F with ⟨a, b⟩ | ⟨a, b⟩
  · rw [if_pos (show (lt.toInt = 1 → (5 ≤ f.toInt ↔ 5 ≤ face.toInt)) ∧ (sh.toInt = 1 → (f - f / 2 * 2).toInt = (face - face / 2 * 2).toInt) from b)]
    rcases hs with ⟨c, -⟩ | ⟨-, e, g⟩
    · omega
    · rw [g, e, h]
  · rw [if_neg (show ¬ ((lt.toInt = 1 → (5 ≤ f.toInt ↔ 5 ≤ face.toInt)) ∧ (sh.toInt = 1 → (f - f / 2 * 2).toInt = (face - face / 2 * 2).toInt)) from b)]
    rcases hs with ⟨-, g⟩ | ⟨c, -, -⟩
    · rw [g, h]
      exact Int32.or_zero
    · omega
def sV_fit (nb : Int) (c : zK3) (S : zS) (b : Int32) : Int32 := if 0 ≤ b.toInt ∧ b.toInt < nb then zFit (cBt S.2.2.1.1 b) (cBt S.2.2.1.2.1 b) (c.2.1 (4 * b.toInt.toNat)) else -1
theorem cBt_b {x y : Int32} : (cBt x y).toInt = 0 ∨ (cBt x y).toInt = 1 := by
  have z : 0 ≤ (cBt x y).toInt ∧ (cBt x y).toInt ≤ 1 := zandr (x := x >>> (y &&& 31)) (m := 1) rfl (by decide) (by decide)
  omega
def zTld (B P : Nat → Int32) (p : Int32) : Nat → Int32
  | 0 => 0
  | k + 1 => if (P (4 * k + 1)).toInt = p.toInt then zTld B P p k + (P (4 * k + 2) - B (4 * (P (4 * k)).toInt.toNat)) else zTld B P p k
theorem zTld_c {B B' P P' : Nat → Int32} {p : Int32} : ∀ {k : Nat}, (∀ i : Nat, i < 4 * k → P i = P' i) → (∀ i : Nat, i < k → B (4 * (P' (4 * i)).toInt.toNat) = B' (4 * (P' (4 * i)).toInt.toNat)) → zTld B P p k = zTld B' P' p k := by
  intro k
  induction k with
  | zero => intro _ _; rfl
  | succ k ih =>
    intro h hB
    unfold zTld
    rw [h (4 * k) (by omega), h (4 * k + 1) (by omega), h (4 * k + 2) (by omega), hB k (by omega), ih (fun i hi => h i (by omega)) (fun i hi => hB i (by omega))]
theorem zTldY {B P : Nat → Int32} {p i i' x x' d v : Int32} (h : x = zTld B P p i.toInt.toNat) (h0 : 0 ≤ i.toInt) (hi : i'.toInt = i.toInt + 1) (hv : v = P (4 * i.toInt.toNat + 1)) (hc : v.toInt = p.toInt) (hd : d = P (4 * i.toInt.toNat + 2) - B (4 * (P (4 * i.toInt.toNat)).toInt.toNat)) (e : x' = x + d) : x' = zTld B P p i'.toInt.toNat := by
  rw [show i'.toInt.toNat = i.toInt.toNat + 1 by omega]
  unfold zTld
  rw [← hv, if_pos hc, e, hd, h]
theorem zTldN {B P : Nat → Int32} {p i i' x v : Int32} (h : x = zTld B P p i.toInt.toNat) (h0 : 0 ≤ i.toInt) (hi : i'.toInt = i.toInt + 1) (hv : v = P (4 * i.toInt.toNat + 1)) (hc : ¬ v.toInt = p.toInt) : x = zTld B P p i'.toInt.toNat := by
  rw [show i'.toInt.toNat = i.toInt.toNat + 1 by omega]
  unfold zTld
  rw [← hv, if_neg hc]
  exact h
def sV_tol (np : Int) (c : zK3) (S : zS) (p : Int32) : Int32 := if (0 ≤ p.toInt ∧ p.toInt < np) ∧ ¬ (zLat S.2.2.2.2 p S.2.2.2.1.2.2.toInt.toNat).toInt = -1 then zTld c.2.1 S.2.2.2.2 p S.2.2.2.1.2.2.toInt.toNat else -1000000
theorem zTl_lat {nb np : Int} {S : zS} {P : Nat → Int32} {p n r : Int32} (hb : zSb nb np S) (hn : S.2.2.2.1.2.2 = n) (hP : ∀ i : Nat, i < 4 * n.toInt.toNat → P i = S.2.2.2.2 i) (h : zLaI P p n r) : (zLat S.2.2.2.2 p S.2.2.2.1.2.2.toInt.toNat).toInt = -1 ↔ r.toInt = -1 := by
  rw [hn, ← zLat_c hP]
  rcases h with ⟨a, b⟩ | ⟨a, b, c⟩
  · rw [b]
    exact ⟨fun _ => a, fun _ => by decide⟩
  · have z := (hb.2.2.2.2.2 r.toInt.toNat (by rw [hn]; omega)).2.2
    rw [c, hP _ (by omega)]
    exact ⟨fun q => by omega, fun q => by omega⟩
def zTlc (P : Nat → Int32) (p : Int32) (i m : Int32) : Prop := 0 ≤ m.toInt ∧ m.toInt ≤ i.toInt ∧ ((m.toInt = 0 ∧ zLat P p i.toInt.toNat = -1) ∨ (1 ≤ m.toInt ∧ ∃ k : Nat, (k : Int) < i.toInt ∧ zLat P p i.toInt.toNat = P (4 * k + 2)))
theorem zTlc_0 {P : Nat → Int32} {p : Int32} : zTlc P p 0 0 := ⟨by decide, by decide, Or.inl ⟨by decide, rfl⟩⟩
theorem zTlcY {P : Nat → Int32} {p i i' m m' v : Int32} (h : zTlc P p i m) (h0 : 0 ≤ i.toInt) (hi : i'.toInt = i.toInt + 1) (hv : v = P (4 * i.toInt.toNat + 1)) (hc : v.toInt = p.toInt) (hm : m'.toInt = m.toInt + 1) : zTlc P p i' m' := by
  obtain ⟨a, b, c⟩ := h
  refine ⟨by omega, by omega, Or.inr ⟨by omega, i.toInt.toNat, by omega, ?_⟩⟩
  rw [show i'.toInt.toNat = i.toInt.toNat + 1 by omega]
  unfold zLat
  rw [← hv, if_pos hc]
theorem zTlcN {P : Nat → Int32} {p i i' m v : Int32} (h : zTlc P p i m) (h0 : 0 ≤ i.toInt) (hi : i'.toInt = i.toInt + 1) (hv : v = P (4 * i.toInt.toNat + 1)) (hc : ¬ v.toInt = p.toInt) : zTlc P p i' m := by
  obtain ⟨a, b, c⟩ := h
  have e : zLat P p i'.toInt.toNat = zLat P p i.toInt.toNat := by
    rw [show i'.toInt.toNat = i.toInt.toNat + 1 by omega]
    conv => lhs; unfold zLat
    rw [← hv, if_neg hc]
  refine ⟨a, by omega, ?_⟩
  rw [e]
  rcases c with c | ⟨c, k, hk, q⟩
  · exact Or.inl c
  · exact Or.inr ⟨c, k, by omega, q⟩
theorem zTlcE {nb np : Int} {S : zS} {P : Nat → Int32} {p i m n : Int32} (h : zTlc P p i m) (hb : zSb nb np S) (hn : S.2.2.2.1.2.2 = n) (hi : i.toInt = n.toInt) (hP : ∀ j : Nat, j < 4 * n.toInt.toNat → P j = S.2.2.2.2 j) : (zLat S.2.2.2.2 p S.2.2.2.1.2.2.toInt.toNat).toInt = -1 ↔ m.toInt = 0 := by
  rw [hn, ← zLat_c hP, show n.toInt.toNat = i.toInt.toNat by omega]
  obtain ⟨a, b, c⟩ := h
  rcases c with ⟨c, q⟩ | ⟨c, k, hk, q⟩
  · rw [q]
    exact ⟨fun _ => c, fun _ => by decide⟩
  · have z := (hb.2.2.2.2.2 k (by rw [hn]; omega)).2.2
    rw [q, hP _ (by omega)]
    exact ⟨fun q => by omega, fun q => by omega⟩
theorem zTld_s {nb np : Int} {c : zK3} {S : zS} {fr fb fp P : Nat → Int32} {p n : Int32} (hc : zCn fr fb fp nb np c) (hb : zSb nb np S) (hn : S.2.2.2.1.2.2 = n) (hP : ∀ j : Nat, j < 4 * n.toInt.toNat → P j = S.2.2.2.2 j) : zTld fb P p n.toInt.toNat = zTld c.2.1 S.2.2.2.2 p S.2.2.2.1.2.2.toInt.toNat := by
  rw [hn]
  exact zTld_c hP (fun i hi => hc.2.1 _ (by have z := (hb.2.2.2.2.2 i (by rw [hn]; omega)).1; omega))
