/-! bytes that come to the reference's tape (behind zBy, zBc) -/
def sFd (a b c d e : Int32) : Nat → (Int → Int) × Int → (Int → Int) × Int
  | 0, G => G
  | k + 1, G => sAp (sFd a b c d e k G) (zBy a b c d e (nI k)).toInt
theorem zby_0 (a b c d e : Int32) : zBy a b c d e (nI 0) = zbt a (24 - 8 * 0) := by
  unfold zBy zbt
  rw [if_pos (by decide), show (24 - 8 * (nI 0 - nI 0 / 4 * 4) : Int32) = nI (24 - 8 * 0) from by decide]
theorem zby_1 (a b c d e : Int32) : zBy a b c d e (nI 1) = zbt a (24 - 8 * 1) := by
  unfold zBy zbt
  rw [if_pos (by decide), show (24 - 8 * (nI 1 - nI 1 / 4 * 4) : Int32) = nI (24 - 8 * 1) from by decide]
theorem zby_2 (a b c d e : Int32) : zBy a b c d e (nI 2) = zbt a (24 - 8 * 2) := by
  unfold zBy zbt
  rw [if_pos (by decide), show (24 - 8 * (nI 2 - nI 2 / 4 * 4) : Int32) = nI (24 - 8 * 2) from by decide]
theorem zby_3 (a b c d e : Int32) : zBy a b c d e (nI 3) = zbt a (24 - 8 * 3) := by
  unfold zBy zbt
  rw [if_pos (by decide), show (24 - 8 * (nI 3 - nI 3 / 4 * 4) : Int32) = nI (24 - 8 * 3) from by decide]
theorem zby_4 (a b c d e : Int32) : zBy a b c d e (nI 4) = zbt b (24 - 8 * 0) := by
  unfold zBy zbt
  rw [if_neg (by decide), if_pos (by decide), show (24 - 8 * (nI 4 - nI 4 / 4 * 4) : Int32) = nI (24 - 8 * 0) from by decide]
theorem zby_5 (a b c d e : Int32) : zBy a b c d e (nI 5) = zbt b (24 - 8 * 1) := by
  unfold zBy zbt
  rw [if_neg (by decide), if_pos (by decide), show (24 - 8 * (nI 5 - nI 5 / 4 * 4) : Int32) = nI (24 - 8 * 1) from by decide]
theorem zby_6 (a b c d e : Int32) : zBy a b c d e (nI 6) = zbt b (24 - 8 * 2) := by
  unfold zBy zbt
  rw [if_neg (by decide), if_pos (by decide), show (24 - 8 * (nI 6 - nI 6 / 4 * 4) : Int32) = nI (24 - 8 * 2) from by decide]
theorem zby_7 (a b c d e : Int32) : zBy a b c d e (nI 7) = zbt b (24 - 8 * 3) := by
  unfold zBy zbt
  rw [if_neg (by decide), if_pos (by decide), show (24 - 8 * (nI 7 - nI 7 / 4 * 4) : Int32) = nI (24 - 8 * 3) from by decide]
theorem zby_8 (a b c d e : Int32) : zBy a b c d e (nI 8) = zbt c (24 - 8 * 0) := by
  unfold zBy zbt
  rw [if_neg (by decide), if_neg (by decide), if_pos (by decide), show (24 - 8 * (nI 8 - nI 8 / 4 * 4) : Int32) = nI (24 - 8 * 0) from by decide]
theorem zby_9 (a b c d e : Int32) : zBy a b c d e (nI 9) = zbt c (24 - 8 * 1) := by
  unfold zBy zbt
  rw [if_neg (by decide), if_neg (by decide), if_pos (by decide), show (24 - 8 * (nI 9 - nI 9 / 4 * 4) : Int32) = nI (24 - 8 * 1) from by decide]
theorem zby_10 (a b c d e : Int32) : zBy a b c d e (nI 10) = zbt c (24 - 8 * 2) := by
  unfold zBy zbt
  rw [if_neg (by decide), if_neg (by decide), if_pos (by decide), show (24 - 8 * (nI 10 - nI 10 / 4 * 4) : Int32) = nI (24 - 8 * 2) from by decide]
theorem zby_11 (a b c d e : Int32) : zBy a b c d e (nI 11) = zbt c (24 - 8 * 3) := by
  unfold zBy zbt
  rw [if_neg (by decide), if_neg (by decide), if_pos (by decide), show (24 - 8 * (nI 11 - nI 11 / 4 * 4) : Int32) = nI (24 - 8 * 3) from by decide]
theorem zby_12 (a b c d e : Int32) : zBy a b c d e (nI 12) = zbt d (24 - 8 * 0) := by
  unfold zBy zbt
  rw [if_neg (by decide), if_neg (by decide), if_neg (by decide), if_pos (by decide), show (24 - 8 * (nI 12 - nI 12 / 4 * 4) : Int32) = nI (24 - 8 * 0) from by decide]
theorem zby_13 (a b c d e : Int32) : zBy a b c d e (nI 13) = zbt d (24 - 8 * 1) := by
  unfold zBy zbt
  rw [if_neg (by decide), if_neg (by decide), if_neg (by decide), if_pos (by decide), show (24 - 8 * (nI 13 - nI 13 / 4 * 4) : Int32) = nI (24 - 8 * 1) from by decide]
theorem zby_14 (a b c d e : Int32) : zBy a b c d e (nI 14) = zbt d (24 - 8 * 2) := by
  unfold zBy zbt
  rw [if_neg (by decide), if_neg (by decide), if_neg (by decide), if_pos (by decide), show (24 - 8 * (nI 14 - nI 14 / 4 * 4) : Int32) = nI (24 - 8 * 2) from by decide]
theorem zby_15 (a b c d e : Int32) : zBy a b c d e (nI 15) = zbt d (24 - 8 * 3) := by
  unfold zBy zbt
  rw [if_neg (by decide), if_neg (by decide), if_neg (by decide), if_pos (by decide), show (24 - 8 * (nI 15 - nI 15 / 4 * 4) : Int32) = nI (24 - 8 * 3) from by decide]
theorem zby_16 (a b c d e : Int32) : zBy a b c d e (nI 16) = zbt e (24 - 8 * 0) := by
  unfold zBy zbt
  rw [if_neg (by decide), if_neg (by decide), if_neg (by decide), if_neg (by decide), show (24 - 8 * (nI 16 - nI 16 / 4 * 4) : Int32) = nI (24 - 8 * 0) from by decide]
theorem zby_17 (a b c d e : Int32) : zBy a b c d e (nI 17) = zbt e (24 - 8 * 1) := by
  unfold zBy zbt
  rw [if_neg (by decide), if_neg (by decide), if_neg (by decide), if_neg (by decide), show (24 - 8 * (nI 17 - nI 17 / 4 * 4) : Int32) = nI (24 - 8 * 1) from by decide]
theorem zby_18 (a b c d e : Int32) : zBy a b c d e (nI 18) = zbt e (24 - 8 * 2) := by
  unfold zBy zbt
  rw [if_neg (by decide), if_neg (by decide), if_neg (by decide), if_neg (by decide), show (24 - 8 * (nI 18 - nI 18 / 4 * 4) : Int32) = nI (24 - 8 * 2) from by decide]
theorem zby_19 (a b c d e : Int32) : zBy a b c d e (nI 19) = zbt e (24 - 8 * 3) := by
  unfold zBy zbt
  rw [if_neg (by decide), if_neg (by decide), if_neg (by decide), if_neg (by decide), show (24 - 8 * (nI 19 - nI 19 / 4 * 4) : Int32) = nI (24 - 8 * 3) from by decide]
theorem sFd_b0 (a b c d e : Int32) (G : (Int → Int) × Int) : sFd a b c d e 4 G = sW a 4 (G) := by
  show sAp (sAp (sAp (sAp (G) (zBy a b c d e (nI 0)).toInt) (zBy a b c d e (nI 1)).toInt) (zBy a b c d e (nI 2)).toInt) (zBy a b c d e (nI 3)).toInt = sAp (sAp (sAp (sAp (G) (zbt a (24 - 8 * 0)).toInt) (zbt a (24 - 8 * 1)).toInt) (zbt a (24 - 8 * 2)).toInt) (zbt a (24 - 8 * 3)).toInt
  rw [zby_0, zby_1, zby_2, zby_3]
theorem sFd_b1 (a b c d e : Int32) (G : (Int → Int) × Int) : sFd a b c d e 8 G = sW b 4 (sFd a b c d e 4 G) := by
  show sAp (sAp (sAp (sAp (sFd a b c d e 4 G) (zBy a b c d e (nI 4)).toInt) (zBy a b c d e (nI 5)).toInt) (zBy a b c d e (nI 6)).toInt) (zBy a b c d e (nI 7)).toInt = sAp (sAp (sAp (sAp (sFd a b c d e 4 G) (zbt b (24 - 8 * 0)).toInt) (zbt b (24 - 8 * 1)).toInt) (zbt b (24 - 8 * 2)).toInt) (zbt b (24 - 8 * 3)).toInt
  rw [zby_4, zby_5, zby_6, zby_7]
theorem sFd_b2 (a b c d e : Int32) (G : (Int → Int) × Int) : sFd a b c d e 12 G = sW c 4 (sFd a b c d e 8 G) := by
  show sAp (sAp (sAp (sAp (sFd a b c d e 8 G) (zBy a b c d e (nI 8)).toInt) (zBy a b c d e (nI 9)).toInt) (zBy a b c d e (nI 10)).toInt) (zBy a b c d e (nI 11)).toInt = sAp (sAp (sAp (sAp (sFd a b c d e 8 G) (zbt c (24 - 8 * 0)).toInt) (zbt c (24 - 8 * 1)).toInt) (zbt c (24 - 8 * 2)).toInt) (zbt c (24 - 8 * 3)).toInt
  rw [zby_8, zby_9, zby_10, zby_11]
theorem sFd_b3 (a b c d e : Int32) (G : (Int → Int) × Int) : sFd a b c d e 16 G = sW d 4 (sFd a b c d e 12 G) := by
  show sAp (sAp (sAp (sAp (sFd a b c d e 12 G) (zBy a b c d e (nI 12)).toInt) (zBy a b c d e (nI 13)).toInt) (zBy a b c d e (nI 14)).toInt) (zBy a b c d e (nI 15)).toInt = sAp (sAp (sAp (sAp (sFd a b c d e 12 G) (zbt d (24 - 8 * 0)).toInt) (zbt d (24 - 8 * 1)).toInt) (zbt d (24 - 8 * 2)).toInt) (zbt d (24 - 8 * 3)).toInt
  rw [zby_12, zby_13, zby_14, zby_15]
theorem sFd_b4 (a b c d e : Int32) (G : (Int → Int) × Int) : sFd a b c d e 20 G = sW e 4 (sFd a b c d e 16 G) := by
  show sAp (sAp (sAp (sAp (sFd a b c d e 16 G) (zBy a b c d e (nI 16)).toInt) (zBy a b c d e (nI 17)).toInt) (zBy a b c d e (nI 18)).toInt) (zBy a b c d e (nI 19)).toInt = sAp (sAp (sAp (sAp (sFd a b c d e 16 G) (zbt e (24 - 8 * 0)).toInt) (zbt e (24 - 8 * 1)).toInt) (zbt e (24 - 8 * 2)).toInt) (zbt e (24 - 8 * 3)).toInt
  rw [zby_16, zby_17, zby_18, zby_19]
theorem sFd_5 (a b c d e : Int32) (G : (Int → Int) × Int) : sFd a b c d e 20 G = sF5 a b c d e G := by
  unfold sF5
  rw [sFd_b4, sFd_b3, sFd_b2, sFd_b1, sFd_b0]
theorem sFd_2 (a b c d e : Int32) (G : (Int → Int) × Int) : ∀ k : Nat, (sFd a b c d e k G).2 = G.2 + (zBc a b c d e k : Int) := by
  intro k
  induction k with
  | zero => show G.2 = G.2 + ((0 : Nat) : Int); omega
  | succ k ih =>
    show (sAp (sFd a b c d e k G) (zBy a b c d e (nI k)).toInt).2 = G.2 + ((zBc a b c d e k + (if (zBy a b c d e (nI k)).toInt = 0 then 0 else 1) : Nat) : Int)
    unfold sAp
    by_cases h : (zBy a b c d e (nI k)).toInt = 0
    · rw [if_pos h, if_pos h]
      omega
    · rw [if_neg h, if_neg h]
      show (sFd a b c d e k G).2 + 1 = _
      omega
def zFr (f : Nat → Int32) (n a b c d e : Int32) (f' : Nat → Int32) (n' k : Int32) : Prop := (sB f' n'.toInt, n'.toInt) = sFd a b c d e k.toInt.toNat (sB f n.toInt, n.toInt)
theorem zFr0 {f : Nat → Int32} {n a b c d e : Int32} : zFr f n a b c d e f n 0 := rfl
theorem zFr_s {f : Nat → Int32} {n a b c d e v k k' : Int32} (hv : v = zBy a b c d e k) (h0 : 0 ≤ k.toInt) (i : k'.toInt = k.toInt + 1) : sFd a b c d e k'.toInt.toNat (sB f n.toInt, n.toInt) = sAp (sFd a b c d e k.toInt.toNat (sB f n.toInt, n.toInt)) v.toInt := by
  have ek : k = nI k.toInt.toNat := by
    obtain ⟨j, hj, e⟩ := nI_of (x := k) (znn h0)
    rw [e, nI_toInt hj]
    rfl
  rw [show k'.toInt.toNat = k.toInt.toNat + 1 by omega, hv]
  show sAp (sFd a b c d e k.toInt.toNat _) (zBy a b c d e (nI k.toInt.toNat)).toInt = _
  rw [← ek]
theorem zFrS0 {f f' : Nat → Int32} {n n' a b c d e v k k' : Int32} (h : zFr f n a b c d e f' n' k) (hv : v = zBy a b c d e k) (h0 : 0 ≤ k.toInt) (i : k'.toInt = k.toInt + 1) (z : v.toInt = 0) : zFr f n a b c d e f' n' k' := by
  unfold zFr at h ⊢
  rw [zFr_s hv h0 i, ← h, z]
  unfold sAp
  rw [if_pos rfl]
theorem zFrS1 {f f' f2 : Nat → Int32} {n n' n2 a b c d e v k k' : Int32} (h : zFr f n a b c d e f' n' k) (hv : v = zBy a b c d e k) (h0 : 0 ≤ k.toInt) (i : k'.toInt = k.toInt + 1) (z : ¬ v.toInt = 0) (e9 : f2 = upd f' n'.toNatClampNeg v) (i9 : n2.toInt = n'.toInt + 1) (n0 : 0 ≤ n'.toInt) : zFr f n a b c d e f2 n2 k' := by
  unfold zFr at h ⊢
  rw [zFr_s hv h0 i, ← h, sB_app e9 i9 n0]
  unfold sAp
  rw [if_neg z, i9]
theorem zfrA {f : Nat → Int32} {n a b c d e : Int32} (h : 240 < n.toInt + (zBc a b c d e 20 : Int)) : zFd f n a b c d e (-1) f n := by
  refine Or.inl ⟨by decide, ?_, rfl, rfl⟩
  rw [← sFd_5, sFd_2]
  exact h
theorem zfrB {f f' : Nat → Int32} {n n' a b c d e k : Int32} (h : zFr f n a b c d e f' n' k) (hk : k.toInt = 20) (hc : n.toInt + (zBc a b c d e 20 : Int) ≤ 240) : zFd f n a b c d e n' f' n' := by
  unfold zFr at h
  rw [hk, show (20 : Int).toNat = 20 from rfl, sFd_5] at h
  refine Or.inr ⟨rfl, ?_, h⟩
  rw [← sFd_5, sFd_2]
  exact hc
