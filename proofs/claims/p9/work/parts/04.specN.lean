abbrev zS : Type := (Nat → Int32) × (Nat → Int32) × (Int32 × Int32 × Int32) × (Int32 × Int32 × Int32) × (Nat → Int32)
def zSc (nb np : Int) (S : zS) (Y F P : Nat → Int32) (pn lt sh wd pu mo : Int32) : Prop := (∀ i : Nat, (i : Int) < nb → Y i = S.1 i) ∧ (∀ i : Nat, (i : Int) < np → F i = S.2.1 i) ∧ S.2.2.1 = (lt, sh, wd) ∧ S.2.2.2.1 = (pu, mo, pn) ∧ ∀ i : Nat, (i : Int) < 4 * pn.toInt → P i = S.2.2.2.2 i
def zSr (nb np : Int) (S : zS) (N : Nat → Int32) : Prop := (∀ i : Nat, (i : Int) < nb → N i = S.1 i) ∧ (∀ i : Nat, (i : Int) < np → N (6 + i) = S.2.1 i) ∧ S.2.2.1 = (N 11, N 12, N 13 - 1) ∧ S.2.2.2.1 = (N 14, N 15, N 16) ∧ ∀ i : Nat, (i : Int) < 4 * (N 16).toInt → N (17 + i) = S.2.2.2.2 i
def sSetY (S : zS) (b : Nat) (x : Int32) : zS := (upd S.1 b x, S.2)
def sSetF (S : zS) (p : Nat) (x : Int32) : zS := (S.1, upd S.2.1 p x, S.2.2)
def sSetA (S : zS) (t : Int32 × Int32 × Int32) : zS := (S.1, S.2.1, t, S.2.2.2)
def sSetB (S : zS) (t : Int32 × Int32 × Int32) : zS := (S.1, S.2.1, S.2.2.1, t, S.2.2.2.2)
def sHang (S : zS) (b p v : Int32) : zS := (S.1, S.2.1, S.2.2.1, (S.2.2.2.1.1, S.2.2.2.1.2.1, S.2.2.2.1.2.2 + 1), upd (upd (upd (upd S.2.2.2.2 (4 * S.2.2.2.1.2.2.toInt.toNat) b) (4 * S.2.2.2.1.2.2.toInt.toNat + 1) p) (4 * S.2.2.2.1.2.2.toInt.toNat + 2) v) (4 * S.2.2.2.1.2.2.toInt.toNat + 3) S.2.2.2.1.2.1)
theorem zupI {f g : Nat → Int32} {k : Nat} {x : Int32} {i : Nat} (h : ¬ i = k → f i = g i) : upd f k x i = upd g k x i := by
  by_cases q : i = k
  · rw [q, pk_us, pk_us]
  · rw [pk_un q, pk_un q, h q]
theorem zSc_Y {nb np : Int} {S : zS} {Y F P Y' : Nat → Int32} {pn lt sh wd pu mo b x : Int32} (h : zSc nb np S Y F P pn lt sh wd pu mo) (e : Y' = upd Y b.toNatClampNeg x) : zSc nb np (sSetY S b.toInt.toNat x) Y' F P pn lt sh wd pu mo := by
  obtain ⟨h1, h2, h3, h4, h5⟩ := h
  refine ⟨fun i hi => ?_, h2, h3, h4, h5⟩
  rw [e]
  exact zupI (fun _ => h1 i hi)
theorem zSc_F {nb np : Int} {S : zS} {Y F P F' : Nat → Int32} {pn lt sh wd pu mo b x : Int32} (h : zSc nb np S Y F P pn lt sh wd pu mo) (e : F' = upd F b.toNatClampNeg x) : zSc nb np (sSetF S b.toInt.toNat x) Y F' P pn lt sh wd pu mo := by
  obtain ⟨h1, h2, h3, h4, h5⟩ := h
  refine ⟨h1, fun i hi => ?_, h3, h4, h5⟩
  rw [e]
  exact zupI (fun _ => h2 i hi)
theorem zSc_A {nb np : Int} {S : zS} {Y F P : Nat → Int32} {pn lt sh wd pu mo lt' sh' wd' : Int32} (h : zSc nb np S Y F P pn lt sh wd pu mo) : zSc nb np (sSetA S (lt', sh', wd')) Y F P pn lt' sh' wd' pu mo := ⟨h.1, h.2.1, rfl, h.2.2.2.1, h.2.2.2.2⟩
theorem zSc_B {nb np : Int} {S : zS} {Y F P : Nat → Int32} {pn lt sh wd pu mo pu' mo' : Int32} (h : zSc nb np S Y F P pn lt sh wd pu mo) : zSc nb np (sSetB S (pu', mo', pn)) Y F P pn lt sh wd pu' mo' := ⟨h.1, h.2.1, h.2.2.1, rfl, h.2.2.2.2⟩
theorem zhang4 {P Q P1 P2 P3 P4 : Nat → Int32} {m : Nat} {i0 i1 i2 i3 b p v mo : Int32} (e1 : P1 = upd P i0.toNatClampNeg b) (e2 : P2 = upd P1 i1.toNatClampNeg p) (e3 : P3 = upd P2 i2.toNatClampNeg v) (e4 : P4 = upd P3 i3.toNatClampNeg mo) {o : Nat} (h0 : i0.toInt = (o : Int) + 4 * (m : Int)) (h1 : i1.toInt = (o : Int) + 4 * (m : Int) + 1) (h2 : i2.toInt = (o : Int) + 4 * (m : Int) + 2) (h3 : i3.toInt = (o : Int) + 4 * (m : Int) + 3) (hP : ∀ i : Nat, i < 4 * m → P (o + i) = Q i) : ∀ i : Nat, i < 4 * (m + 1) → P4 (o + i) = upd (upd (upd (upd Q (4 * m) b) (4 * m + 1) p) (4 * m + 2) v) (4 * m + 3) mo i := by
  have j0 : i0.toNatClampNeg = o + 4 * m := by show i0.toInt.toNat = _; omega
  have j1 : i1.toNatClampNeg = o + (4 * m + 1) := by show i1.toInt.toNat = _; omega
  have j2 : i2.toNatClampNeg = o + (4 * m + 2) := by show i2.toInt.toNat = _; omega
  have j3 : i3.toNatClampNeg = o + (4 * m + 3) := by show i3.toInt.toNat = _; omega
  intro i hi
  rw [e4, e3, e2, e1, j0, j1, j2, j3]
  by_cases q3 : i = 4 * m + 3
  · rw [q3, pk_us, pk_us]
  · rw [pk_un (by omega), pk_un (f := upd (upd (upd Q (4 * m) b) (4 * m + 1) p) (4 * m + 2) v) q3]
    by_cases q2 : i = 4 * m + 2
    · rw [q2, pk_us, pk_us]
    · rw [pk_un (by omega), pk_un (f := upd (upd Q (4 * m) b) (4 * m + 1) p) q2]
      by_cases q1 : i = 4 * m + 1
      · rw [q1, pk_us, pk_us]
      · rw [pk_un (by omega), pk_un (f := upd Q (4 * m) b) q1]
        by_cases q0 : i = 4 * m
        · rw [q0, pk_us, pk_us]
        · rw [pk_un (by omega), pk_un q0]
          exact hP i (by omega)
theorem zSc_H {nb np : Int} {S : zS} {Y F P P1 P2 P3 P4 : Nat → Int32} {pn pn' lt sh wd pu mo i0 i1 i2 i3 b p v : Int32} (h : zSc nb np S Y F P pn lt sh wd pu mo) (e1 : P1 = upd P i0.toNatClampNeg b) (e2 : P2 = upd P1 i1.toNatClampNeg p) (e3 : P3 = upd P2 i2.toNatClampNeg v) (e4 : P4 = upd P3 i3.toNatClampNeg mo) (h0 : i0.toInt = 4 * pn.toInt) (h1 : i1.toInt = 4 * pn.toInt + 1) (h2 : i2.toInt = 4 * pn.toInt + 2) (h3 : i3.toInt = 4 * pn.toInt + 3) (hp : 0 ≤ pn.toInt) (ep : pn' = pn + 1) (hp' : pn'.toInt = pn.toInt + 1) : zSc nb np (sHang S b p v) Y F P4 pn' lt sh wd pu mo := by
  obtain ⟨a1, a2, a3, a4, a5⟩ := h
  have z := zhang4 (o := 0) (m := pn.toInt.toNat) (Q := S.2.2.2.2) e1 e2 e3 e4 (by omega) (by omega) (by omega) (by omega) (fun i hi => by rw [Nat.zero_add]; exact a5 i (by omega))
  refine ⟨a1, a2, a3, ?_, fun i hi => ?_⟩
  · show (S.2.2.2.1.1, S.2.2.2.1.2.1, S.2.2.2.1.2.2 + 1) = _
    rw [a4, ep]
  · have y := z i (by omega)
    rw [Nat.zero_add] at y
    rw [y]
    show _ = upd (upd (upd (upd S.2.2.2.2 (4 * S.2.2.2.1.2.2.toInt.toNat) b) (4 * S.2.2.2.1.2.2.toInt.toNat + 1) p) (4 * S.2.2.2.1.2.2.toInt.toNat + 2) v) (4 * S.2.2.2.1.2.2.toInt.toNat + 3) S.2.2.2.1.2.1 i
    rw [a4]
theorem zSr_Y {nb np : Int} {S : zS} {N N' : Nat → Int32} {i x : Int32} {b : Nat} (h : zSr nb np S N) (e : N' = upd N i.toNatClampNeg x) (hi : i.toInt = (b : Int)) (hb : b < 6) : zSr nb np (sSetY S b x) N' := by
  obtain ⟨h1, h2, h3, h4, h5⟩ := h
  have ii : i.toNatClampNeg = b := by show i.toInt.toNat = _; omega
  rw [ii] at e
  have k : ∀ j : Nat, 6 ≤ j → N' j = N j := fun j hj => by rw [e, pk_un (by omega)]
  refine ⟨fun j hj => ?_, fun j hj => by rw [k _ (by omega)]; exact h2 j hj, by rw [k 11 (by decide), k 12 (by decide), k 13 (by decide)]; exact h3, by rw [k 14 (by decide), k 15 (by decide), k 16 (by decide)]; exact h4, fun j hj => ?_⟩
  · rw [e]
    exact zupI (fun _ => h1 j hj)
  · rw [k 16 (by decide)] at hj
    rw [k _ (by omega)]
    exact h5 j hj
theorem zSr_F {nb np : Int} {S : zS} {N N' : Nat → Int32} {i x : Int32} {b : Nat} (h : zSr nb np S N) (e : N' = upd N i.toNatClampNeg x) (hi : i.toInt = 6 + (b : Int)) (hb : b < 5) (hn : nb ≤ 6) : zSr nb np (sSetF S b x) N' := by
  obtain ⟨h1, h2, h3, h4, h5⟩ := h
  have ii : i.toNatClampNeg = 6 + b := by show i.toInt.toNat = _; omega
  rw [ii] at e
  have k : ∀ j : Nat, 11 ≤ j → N' j = N j := fun j hj => by rw [e, pk_un (by omega)]
  refine ⟨fun j hj => by rw [e, pk_un (by omega)]; exact h1 j hj, fun j hj => ?_, by rw [k 11 (by decide), k 12 (by decide), k 13 (by decide)]; exact h3, by rw [k 14 (by decide), k 15 (by decide), k 16 (by decide)]; exact h4, fun j hj => ?_⟩
  · show N' (6 + j) = upd S.2.1 b x j
    rw [e]
    by_cases q : j = b
    · rw [q, pk_us, pk_us]
    · rw [pk_un (by omega), pk_un q]
      exact h2 j hj
  · rw [k 16 (by decide)] at hj
    rw [k _ (by omega)]
    exact h5 j hj
theorem zSr_one {nb np : Int} {S : zS} {N N' : Nat → Int32} {i x : Int32} {c : Nat} (h : zSr nb np S N) (e : N' = upd N i.toNatClampNeg x) (hi : i.toInt = (c : Int)) (hc : 11 ≤ c ∧ c ≤ 15) (hn : nb ≤ 6) (hp : np ≤ 5) : zSr nb np (S.1, S.2.1, (N' 11, N' 12, N' 13 - 1), (N' 14, N' 15, S.2.2.2.1.2.2), S.2.2.2.2) N' := by
  obtain ⟨h1, h2, h3, h4, h5⟩ := h
  have ii : i.toNatClampNeg = c := by show i.toInt.toNat = _; omega
  rw [ii] at e
  have k : ∀ j : Nat, ¬ j = c → N' j = N j := fun j hj => by rw [e, pk_un hj]
  have k16 := k 16 (by omega)
  refine ⟨fun j hj => by rw [k _ (by omega)]; exact h1 j hj, fun j hj => by rw [k _ (by omega)]; exact h2 j hj, rfl, ?_, fun j hj => ?_⟩
  · show (N' 14, N' 15, S.2.2.2.1.2.2) = (N' 14, N' 15, N' 16)
    rw [k16, h4]
  · rw [k16] at hj
    rw [k _ (by omega)]
    exact h5 j hj
theorem zSr_H {nb np : Int} {S : zS} {N N1 N2 N3 N4 N5 : Nat → Int32} {i0 i1 i2 i3 i4 b p v mo x : Int32} (h : zSr nb np S N) (e1 : N1 = upd N i0.toNatClampNeg b) (e2 : N2 = upd N1 i1.toNatClampNeg p) (e3 : N3 = upd N2 i2.toNatClampNeg v) (e4 : N4 = upd N3 i3.toNatClampNeg mo) (e5 : N5 = upd N4 i4.toNatClampNeg x) (h0 : i0.toInt = 17 + 4 * (N 16).toInt) (h1 : i1.toInt = 17 + 4 * (N 16).toInt + 1) (h2 : i2.toInt = 17 + 4 * (N 16).toInt + 2) (h3 : i3.toInt = 17 + 4 * (N 16).toInt + 3) (h4 : i4.toInt = 16) (hp : 0 ≤ (N 16).toInt) (hmo : mo = N 15) (hx : x = N 16 + 1) (hx' : x.toInt = (N 16).toInt + 1) (hn : nb ≤ 6) (hnp : np ≤ 5) : zSr nb np (sHang S b p v) N5 := by
  obtain ⟨a1, a2, a3, a4, a5⟩ := h
  have z := zhang4 (o := 17) (m := (N 16).toInt.toNat) (Q := S.2.2.2.2) e1 e2 e3 e4 (by omega) (by omega) (by omega) (by omega) (fun i hi => a5 i (by omega))
  have ii : i4.toNatClampNeg = 16 := by show i4.toInt.toNat = _; omega
  rw [ii] at e5
  have k : ∀ j : Nat, j < 16 → N5 j = N j := fun j hj => by
    have g0 : i0.toNatClampNeg = i0.toInt.toNat := rfl
    have g1 : i1.toNatClampNeg = i1.toInt.toNat := rfl
    have g2 : i2.toNatClampNeg = i2.toInt.toNat := rfl
    have g3 : i3.toNatClampNeg = i3.toInt.toNat := rfl
    rw [e5, pk_un (by omega), e4, pk_un (by omega), e3, pk_un (by omega), e2, pk_un (by omega), e1, pk_un (by omega)]
  have k16 : N5 16 = x := by rw [e5, pk_us]
  refine ⟨fun j hj => by rw [k _ (by omega)]; exact a1 j hj, fun j hj => by rw [k _ (by omega)]; exact a2 j hj, by rw [k 11 (by decide), k 12 (by decide), k 13 (by decide)]; exact a3, ?_, fun j hj => ?_⟩
  · show (S.2.2.2.1.1, S.2.2.2.1.2.1, S.2.2.2.1.2.2 + 1) = _
    rw [a4, k 14 (by decide), k 15 (by decide), k16, hx]
  · rw [k16] at hj
    have y := z j (by omega)
    rw [e5, pk_un (by omega), y]
    show _ = upd (upd (upd (upd S.2.2.2.2 (4 * S.2.2.2.1.2.2.toInt.toNat) b) (4 * S.2.2.2.1.2.2.toInt.toNat + 1) p) (4 * S.2.2.2.1.2.2.toInt.toNat + 2) v) (4 * S.2.2.2.1.2.2.toInt.toNat + 3) S.2.2.2.1.2.1 j
    rw [a4, hmo]
def zMon (m : Int) : List zS → Prop
  | [] => True
  | K :: r => K.2.2.2.1.2.2.toInt ≤ m ∧ zMon K.2.2.2.1.2.2.toInt r
theorem zMon_le {m m' : Int} {l : List zS} (h : zMon m l) (hm : m ≤ m') : zMon m' l := by
  cases l with
  | nil => trivial
  | cons K r => exact ⟨by have := h.1; omega, h.2⟩
theorem zMon_take {l : List zS} : ∀ {m : Int} (n : Nat), zMon m l → zMon m (l.take n) := by
  induction l with
  | nil => intro m n _; rw [List.take_nil]; trivial
  | cons K r ih =>
    intro m n h
    cases n with
    | zero => trivial
    | succ n => exact ⟨h.1, ih n h.2⟩
theorem zMon_all {l : List zS} : ∀ {m : Int}, zMon m l → ∀ K ∈ l, K.2.2.2.1.2.2.toInt ≤ m := by
  induction l with
  | nil => intro m _ K hK; simp at hK
  | cons A r ih =>
    intro m h K hK
    rcases List.mem_cons.mp hK with q | q
    · rw [q]
      exact h.1
    · have := ih h.2 K q
      have := h.1
      omega
def zKc1 (nb np : Int) (K : zS) (P W : Nat → Int32) (o : Nat) : Prop := (∀ i : Nat, (i : Int) < nb → W (o + i) = K.1 i) ∧ (∀ i : Nat, (i : Int) < np → W (o + (6 + i)) = K.2.1 i) ∧ K.2.2.1 = (W (o + 12), W (o + 13), W (o + 14)) ∧ K.2.2.2.1 = (W (o + 15), W (o + 16), W (o + 11)) ∧ ∀ i : Nat, (i : Int) < 4 * (W (o + 11)).toInt → P i = K.2.2.2.2 i
def zKc (nb np : Int) (Ks : List zS) (P W : Nat → Int32) (pl cn : Int32) : Prop := cn.toInt = (Ks.length : Int) ∧ ∀ (j : Nat) (K : zS), Ks[j]? = some K → zKc1 nb np K P W (17 * ((pl.toInt.toNat + 39 - j) % 40))
def zKr (nb np : Int) (Ks : List zS) (f : Nat → Int32) (ac : Int32) : Prop := ac.toInt = (Ks.length : Int) ∧ ∀ (j : Nat) (K : zS), Ks[j]? = some K → zSr nb np K (fun i => f (97 * (Ks.length - 1 - j) + i))
def sKeep (S : zS) (Ks : List zS) : List zS := (S :: Ks).take 40
theorem zhgK {P P1 P2 P3 P4 : Nat → Int32} {pn i0 i1 i2 i3 b p v mo : Int32} (e1 : P1 = upd P i0.toNatClampNeg b) (e2 : P2 = upd P1 i1.toNatClampNeg p) (e3 : P3 = upd P2 i2.toNatClampNeg v) (e4 : P4 = upd P3 i3.toNatClampNeg mo) (h0 : i0.toInt = 4 * pn.toInt) (h1 : i1.toInt = 4 * pn.toInt + 1) (h2 : i2.toInt = 4 * pn.toInt + 2) (h3 : i3.toInt = 4 * pn.toInt + 3) : ∀ i : Nat, (i : Int) < 4 * pn.toInt → P4 i = P i := by
  intro i hi
  have g0 : i0.toNatClampNeg = i0.toInt.toNat := rfl
  have g1 : i1.toNatClampNeg = i1.toInt.toNat := rfl
  have g2 : i2.toNatClampNeg = i2.toInt.toNat := rfl
  have g3 : i3.toNatClampNeg = i3.toInt.toNat := rfl
  rw [e4, pk_un (by omega), e3, pk_un (by omega), e2, pk_un (by omega), e1, pk_un (by omega)]
