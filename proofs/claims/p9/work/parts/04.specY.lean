def sQ_bri (nb : Int) (b w : Int32) : Prop := (0 ≤ b.toInt ∧ b.toInt < nb) ∧ 0 ≤ w.toInt ∧ w.toInt ≤ 5
def sV_bri (c : zK3) (S : zS) (b w : Int32) : Int32 := if w.toInt = 0 then c.2.1 (4 * b.toInt.toNat) else if w.toInt = 1 then c.2.1 (4 * b.toInt.toNat + 1) else if w.toInt = 2 then c.2.1 (4 * b.toInt.toNat + 2) else if w.toInt = 3 then S.1 b.toInt.toNat else if w.toInt = 4 then cBt S.2.2.1.1 b else cBt S.2.2.1.2.1 b
def zBrA (nb : Int) (fb Y : Nat → Int32) (lt sh : Int32) (c : zK3) (S : zS) : Prop := (∀ j : Nat, (j : Int) < 4 * nb → fb j = c.2.1 j) ∧ (∀ i : Nat, (i : Int) < nb → Y i = S.1 i) ∧ S.2.2.1.1 = lt ∧ S.2.2.1.2.1 = sh
theorem zBrA_of {fr fb fp Y F P : Nat → Int32} {pn lt sh wd pu mo : Int32} {nb np : Int} {c : zK3} {S : zS} (hc : zCn fr fb fp nb np c) (h : zSc nb np S Y F P pn lt sh wd pu mo) : zBrA nb fb Y lt sh c S := ⟨hc.2.1, h.1, zSc_lt h, zSc_sh h⟩
def zTh (h : Nat) (C : va_W) (x : Int) : Prop := ∃ (t : Int32) (fs : List Value) (r : va_W), C = (h, .inr (11, .int t :: fs)) :: r ∧ t.toInt = x
theorem zTh_i {h : Nat} {t : Int32} {fs : List Value} {r : va_W} {x : Int} (e : zTh h ((h, .inr (11, .int t :: fs)) :: r) x) : t.toInt = x := by
  obtain ⟨t', fs', r', e1, e2⟩ := e
  injection e1 with a b
  injection a with a1 a2
  injection a2 with a3
  injection a3 with a4 a5
  injection a5 with a6 a7
  injection a6 with a8
  rw [a8]
  exact e2
theorem zlc_e {x : Int64} : lg_cmp x x = 0 := (if_neg (fun h => absurd (Int64.lt_iff_toInt_lt.mp h) (Int.lt_irrefl _))).trans (if_pos rfl)
