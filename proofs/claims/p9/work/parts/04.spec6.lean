/-! ===== Int32 by its bits: bt x i ===== -/
def bt (x : Int32) (i : Nat) : Bool := x.toBitVec.getLsbD i
theorem b_ext {x y : Int32} (h : ∀ i, i < 32 → bt x i = bt y i) : x = y := Int32.toBitVec_inj.mp (BitVec.eq_of_getLsbD_eq (fun i hi => h i hi))
theorem b_or (x y : Int32) (i : Nat) : bt (x ||| y) i = (bt x i || bt y i) := by unfold bt; rw [Int32.toBitVec_or, BitVec.getLsbD_or]
theorem b_and (x y : Int32) (i : Nat) : bt (x &&& y) i = (bt x i && bt y i) := by unfold bt; rw [Int32.toBitVec_and, BitVec.getLsbD_and]
theorem b_xor (x y : Int32) (i : Nat) : bt (x ^^^ y) i = (bt x i ^^ bt y i) := by unfold bt; rw [Int32.toBitVec_xor, BitVec.getLsbD_xor]
theorem b_big {x : Int32} {i : Nat} (h : 32 ≤ i) : bt x i = false := BitVec.getLsbD_of_ge _ _ h
theorem b_255 (i : Nat) : bt 255 i = decide (i < 8) := by
  rcases Nat.lt_or_ge i 32 with h | h
  · exact (by decide +kernel : ∀ i, i < 32 → bt 255 i = decide (i < 8)) i h
  · rw [b_big h, decide_eq_false (by omega)]
theorem b_65535 (i : Nat) : bt 65535 i = decide (i < 16) := by
  rcases Nat.lt_or_ge i 32 with h | h
  · exact (by decide +kernel : ∀ i, i < 32 → bt 65535 i = decide (i < 16)) i h
  · rw [b_big h, decide_eq_false (by omega)]
theorem b_m1 : ∀ i, i < 32 → bt (-1) i = true := by decide +kernel
theorem b_0 (i : Nat) : bt 0 i = false := BitVec.getLsbD_zero
theorem s_l : ∀ n, n < 32 → ((nI n &&& 31).toBitVec.smod 32).toNat = n := by decide +kernel
theorem s_u : ∀ n, n < 32 → (((nI n).toUInt32 &&& Int32.toUInt32 31).toBitVec % 32).toNat = n := by decide +kernel
theorem b_shl (n : Nat) (hn : n < 32) (x : Int32) {i : Nat} (hi : i < 32) : bt (x <<< (nI n &&& 31)) i = (decide (n ≤ i) && bt x (i - n)) := by
  unfold bt
  rw [Int32.toBitVec_shiftLeft]
  show (x.toBitVec <<< ((nI n &&& 31).toBitVec.smod 32).toNat).getLsbD i = _
  rw [s_l n hn, BitVec.getLsbD_shiftLeft]
  rcases Nat.lt_or_ge i n with h | h
  · simp [h, Nat.not_le.mpr h]
  · simp [hi, h, Nat.not_lt.mpr h]
theorem b_ushr (n : Nat) (hn : n < 32) (x : Int32) (i : Nat) : bt ((x.toUInt32 >>> ((nI n).toUInt32 &&& Int32.toUInt32 31)).toInt32) i = bt x (n + i) := by
  show (x.toUInt32 >>> ((nI n).toUInt32 &&& Int32.toUInt32 31)).toBitVec.getLsbD i = x.toUInt32.toBitVec.getLsbD (n + i)
  rw [UInt32.toBitVec_shiftRight]
  show (x.toUInt32.toBitVec >>> (((nI n).toUInt32 &&& Int32.toUInt32 31).toBitVec % 32).toNat).getLsbD i = _
  rw [s_u n hn, BitVec.getLsbD_ushiftRight]
theorem b_sshr (n : Nat) (hn : n < 32) (x : Int32) {i : Nat} (hi : i < 32) : bt (x >>> (nI n &&& 31)) i = if n + i < 32 then bt x (n + i) else bt x 31 := by
  unfold bt
  rw [Int32.toBitVec_shiftRight]
  show (x.toBitVec.sshiftRight ((nI n &&& 31).toBitVec.smod 32).toNat).getLsbD i = _
  rw [s_l n hn, BitVec.getLsbD_sshiftRight, BitVec.msb_eq_getLsbD_last]
  simp [hi]
theorem b_shl8 (x : Int32) {i : Nat} (hi : i < 32) : bt (x <<< ((8 : Int32) &&& 31)) i = (decide (8 ≤ i) && bt x (i - 8)) := b_shl 8 (by omega) x hi
theorem b_shl16 (x : Int32) {i : Nat} (hi : i < 32) : bt (x <<< ((16 : Int32) &&& 31)) i = (decide (16 ≤ i) && bt x (i - 16)) := b_shl 16 (by omega) x hi
theorem b_shl24 (x : Int32) {i : Nat} (hi : i < 32) : bt (x <<< ((24 : Int32) &&& 31)) i = (decide (24 ≤ i) && bt x (i - 24)) := b_shl 24 (by omega) x hi
theorem b_sshr8 (x : Int32) {i : Nat} (hi : i < 32) : bt (x >>> ((8 : Int32) &&& 31)) i = if 8 + i < 32 then bt x (8 + i) else bt x 31 := b_sshr 8 (by omega) x hi
/-! bytes that come to the tape (behind the bit rows b_..) -/
def zbt (w : Int32) (n : Nat) : Int32 := (w >>> (nI n &&& 31)) &&& 255
theorem zu (n : Nat) (hn : n ≤ 24) (w : Int32) : (w.toUInt32 >>> ((nI n).toUInt32 &&& Int32.toUInt32 31)).toInt32 &&& 255 = zbt w n := by
  unfold zbt
  apply b_ext
  intro i hi
  rw [b_and, b_and, b_255, b_ushr n (by omega), b_sshr n (by omega) w hi]
  by_cases h : i < 8
  · rw [if_pos (by omega)]
  · simp [h]
def sAp (G : (Int → Int) × Int) (x : Int) : (Int → Int) × Int := if x = 0 then G else (fun a => if a = G.2 then x else G.1 a, G.2 + 1)
def sW (w : Int32) : Nat → (Int → Int) × Int → (Int → Int) × Int
  | 0, G => G
  | j + 1, G => sAp (sW w j G) (zbt w (24 - 8 * j)).toInt
theorem sB_app {f f' : Nat → Int32} {n n' v : Int32} (e : f' = upd f n.toNatClampNeg v) (hn : n'.toInt = n.toInt + 1) (h0 : 0 ≤ n.toInt) : sB f' n'.toInt = fun a => if a = n.toInt then v.toInt else sB f n.toInt a := by
  funext a
  unfold sB
  by_cases q : a = n.toInt
  · rw [if_pos q, if_pos ⟨by omega, by omega⟩, e]
    show (if a.toNat = n.toInt.toNat then v else f a.toNat).toInt = _
    rw [if_pos (by omega)]
  · rw [if_neg q]
    by_cases z : 0 ≤ a ∧ a < n.toInt
    · rw [if_pos z, if_pos ⟨z.1, by omega⟩, e]
      show (if a.toNat = n.toInt.toNat then v else f a.toNat).toInt = _
      rw [if_neg (by omega)]
    · rw [if_neg z, if_neg (by omega)]
theorem sAp_ge (G : (Int → Int) × Int) (x : Int) : G.2 ≤ (sAp G x).2 ∧ (sAp G x).2 ≤ G.2 + 1 ∧ ∀ a, a < G.2 → (sAp G x).1 a = G.1 a := by
  unfold sAp
  by_cases h : x = 0
  · rw [if_pos h]
    exact ⟨Int.le_refl _, by omega, fun _ _ => rfl⟩
  · rw [if_neg h]
    refine ⟨?_, Int.le_refl _, fun a ha => ?_⟩
    · show G.2 ≤ G.2 + 1
      omega
    · show (if a = G.2 then x else G.1 a) = _
      rw [if_neg (by omega)]
theorem sW_ge (w : Int32) (G : (Int → Int) × Int) : ∀ j : Nat, G.2 ≤ (sW w j G).2 ∧ ∀ a, a < G.2 → (sW w j G).1 a = G.1 a := by
  intro j
  induction j with
  | zero => exact ⟨Int.le_refl _, fun _ _ => rfl⟩
  | succ j ih =>
    have h := sAp_ge (sW w j G) (zbt w (24 - 8 * j)).toInt
    show G.2 ≤ (sAp (sW w j G) (zbt w (24 - 8 * j)).toInt).2 ∧ ∀ a, a < G.2 → (sAp (sW w j G) (zbt w (24 - 8 * j)).toInt).1 a = G.1 a
    exact ⟨by omega, fun a ha => (h.2.2 a (by omega)).trans (ih.2 a ha)⟩
/-- j bytes of the word have come -/
def zAd (f : Nat → Int32) (n w : Int32) (f' : Nat → Int32) (n' s : Int32) : Prop := ∃ j : Nat, j ≤ 4 ∧ s.toInt = 24 - 8 * (j : Int) ∧ n'.toInt ≤ n.toInt + (j : Int) ∧ (sB f' n'.toInt, n'.toInt) = sW w j (sB f n.toInt, n.toInt)
theorem zAd0 {f : Nat → Int32} {n w : Int32} : zAd f n w f n 24 := ⟨0, by omega, by decide, by omega, rfl⟩
theorem zAd_v {f : Nat → Int32} {n w n' s x v : Int32} {f' : Nat → Int32} {j : Nat} (hj : s.toInt = 24 - 8 * (j : Int)) (hs : 0 ≤ s.toInt) (e9 : x = (w.toUInt32 >>> (s.toUInt32 &&& Int32.toUInt32 31)).toInt32) (e13 : v = x &&& 255) : v = zbt w (24 - 8 * j) := by
  have es : s = nI (24 - 8 * j) := Int32.toInt_inj.mp (by rw [nI_toInt (by omega)]; omega)
  rw [e13, e9, es]
  exact zu _ (by omega) w
theorem zAdS0 {f : Nat → Int32} {n w n' s x v s' : Int32} {f' : Nat → Int32} (h : zAd f n w f' n' s) (hs : 0 ≤ s.toInt) (e9 : x = (w.toUInt32 >>> (s.toUInt32 &&& Int32.toUInt32 31)).toInt32) (e13 : v = x &&& 255) (hv : v.toInt = 0) (i : s'.toInt = s.toInt - 8) : zAd f n w f' n' s' := by
  obtain ⟨j, h1, h2, h3, h4⟩ := h
  have ev := zAd_v (f := f) (n := n) (n' := n') (f' := f') h2 hs e9 e13
  refine ⟨j + 1, by omega, by omega, by omega, ?_⟩
  show _ = sAp (sW w j _) (zbt w (24 - 8 * j)).toInt
  rw [← ev, hv, ← h4]
  unfold sAp
  rw [if_pos rfl]
theorem zAdS1 {f : Nat → Int32} {n w n' s x v s' n2 : Int32} {f' f2 : Nat → Int32} (h : zAd f n w f' n' s) (hs : 0 ≤ s.toInt) (e9 : x = (w.toUInt32 >>> (s.toUInt32 &&& Int32.toUInt32 31)).toInt32) (e13 : v = x &&& 255) (hv : ¬ v.toInt = 0) (e40 : f2 = upd f' n'.toNatClampNeg v) (i47 : n2.toInt = n'.toInt + 1) (h0 : 0 ≤ n'.toInt) (i : s'.toInt = s.toInt - 8) : zAd f n w f2 n2 s' := by
  obtain ⟨j, h1, h2, h3, h4⟩ := h
  have ev := zAd_v (f := f) (n := n) (n' := n') (f' := f') h2 hs e9 e13
  refine ⟨j + 1, by omega, by omega, by omega, ?_⟩
  show _ = sAp (sW w j _) (zbt w (24 - 8 * j)).toInt
  rw [← ev, ← h4, sB_app e40 i47 h0]
  unfold sAp
  rw [if_neg hv, i47]
theorem zAdX {f : Nat → Int32} {n w n' s : Int32} {f' : Nat → Int32} {P : Prop} (h : zAd f n w f' n' s) (hs : 0 ≤ s.toInt) (hn : n.toInt ≤ 256) (hc : 260 ≤ n'.toInt) : P := by
  obtain ⟨j, h1, h2, h3, h4⟩ := h
  omega
theorem zAdE {f : Nat → Int32} {n w n' s : Int32} {f' : Nat → Int32} (h : zAd f n w f' n' s) (hs : s.toInt < 0) : (sB f' n'.toInt, n'.toInt) = sW w 4 (sB f n.toInt, n.toInt) := by
  obtain ⟨j, h1, h2, h3, h4⟩ := h
  rw [h4, show j = 4 by omega]
theorem zAdB {f : Nat → Int32} {n w n' s : Int32} {f' : Nat → Int32} (h : zAd f n w f' n' s) : n'.toInt ≤ n.toInt + 4 := by
  obtain ⟨j, h1, h2, h3, h4⟩ := h
  omega
theorem zTyS {f f' : Nat → Int32} {n n' v : Int32} (h : zTy n f) (e : f' = upd f n.toNatClampNeg v) (hn : n'.toInt = n.toInt + 1) (h0 : 0 ≤ n.toInt) (h1 : 1 ≤ v.toInt) (h2 : v.toInt ≤ 255) : zTy n' f' := fun j hj => by
  rw [e]
  show 1 ≤ (if j = n.toInt.toNat then v else f j).toInt ∧ (if j = n.toInt.toNat then v else f j).toInt ≤ 255
  by_cases q : j = n.toInt.toNat
  · rw [if_pos q]
    exact ⟨h1, h2⟩
  · rw [if_neg q]
    exact h j (by omega)
theorem zTy_le {f : Nat → Int32} {n n' : Int32} (h : zTy n f) (hn : n'.toInt ≤ n.toInt) : zTy n' f := fun j hj => h j (by omega)
/-- a shorter tape -/
theorem sB_cut {f f' : Nat → Int32} {n n' : Int} (h : ∀ a, a < n' → sB f n a = sB f' n' a) (hn : n' ≤ n) : sB f n' = sB f' n' := by
  funext a
  by_cases q : 0 ≤ a ∧ a < n'
  · have e := h a q.2
    unfold sB at e ⊢
    rw [if_pos ⟨q.1, by omega⟩] at e
    rw [if_pos q]
    exact e
  · unfold sB
    rw [if_neg q, if_neg q]
def sF5 (a b c d e : Int32) (G : (Int → Int) × Int) : (Int → Int) × Int := sW e 4 (sW d 4 (sW c 4 (sW b 4 (sW a 4 G))))
theorem sF5_ge (a b c d e : Int32) (G : (Int → Int) × Int) : G.2 ≤ (sF5 a b c d e G).2 ∧ ∀ x, x < G.2 → (sF5 a b c d e G).1 x = G.1 x := by
  unfold sF5
  have h1 := sW_ge a G 4
  have h2 := sW_ge b (sW a 4 G) 4
  have h3 := sW_ge c (sW b 4 (sW a 4 G)) 4
  have h4 := sW_ge d (sW c 4 (sW b 4 (sW a 4 G))) 4
  have h5 := sW_ge e (sW d 4 (sW c 4 (sW b 4 (sW a 4 G)))) 4
  refine ⟨by omega, fun x hx => ?_⟩
  rw [h5.2 x (by omega), h4.2 x (by omega), h3.2 x (by omega), h2.2 x (by omega), h1.2 x hx]
/-- what feed answers, and the tape behind it -/
def zFd (f : Nat → Int32) (n a b c d e r : Int32) (f' : Nat → Int32) (n' : Int32) : Prop := (r.toInt = -1 ∧ 240 < (sF5 a b c d e (sB f n.toInt, n.toInt)).2 ∧ n'.toInt = n.toInt ∧ sB f' n'.toInt = sB f n.toInt) ∨ (r.toInt = n'.toInt ∧ (sF5 a b c d e (sB f n.toInt, n.toInt)).2 ≤ 240 ∧ (sB f' n'.toInt, n'.toInt) = sF5 a b c d e (sB f n.toInt, n.toInt))
theorem zfd_e {f f1 f2 f3 f4 f5 : Nat → Int32} {n n1 n2 n3 n4 n5 a b c d e : Int32} (h1 : (sB f1 n1.toInt, n1.toInt) = sW a 4 (sB f n.toInt, n.toInt)) (h2 : (sB f2 n2.toInt, n2.toInt) = sW b 4 (sB f1 n1.toInt, n1.toInt)) (h3 : (sB f3 n3.toInt, n3.toInt) = sW c 4 (sB f2 n2.toInt, n2.toInt)) (h4 : (sB f4 n4.toInt, n4.toInt) = sW d 4 (sB f3 n3.toInt, n3.toInt)) (h5 : (sB f5 n5.toInt, n5.toInt) = sW e 4 (sB f4 n4.toInt, n4.toInt)) : sF5 a b c d e (sB f n.toInt, n.toInt) = (sB f5 n5.toInt, n5.toInt) := by
  unfold sF5
  rw [← h1, ← h2, ← h3, ← h4, ← h5]
theorem zfdA {f f5 : Nat → Int32} {n n5 a b c d e : Int32} (h : sF5 a b c d e (sB f n.toInt, n.toInt) = (sB f5 n5.toInt, n5.toInt)) (hc : 240 < n5.toInt) : zFd f n a b c d e (-1) f5 n := by
  have g := sF5_ge a b c d e (sB f n.toInt, n.toInt)
  rw [h] at g
  refine Or.inl ⟨by decide, by rw [h]; exact hc, rfl, sB_cut (n := n5.toInt) (fun x hx => g.2 x hx) g.1⟩
theorem zfdB {f f5 : Nat → Int32} {n n5 a b c d e : Int32} (h : sF5 a b c d e (sB f n.toInt, n.toInt) = (sB f5 n5.toInt, n5.toInt)) (hc : n5.toInt ≤ 240) : zFd f n a b c d e n5 f5 n5 := Or.inr ⟨rfl, by rw [h]; exact hc, h.symm⟩
theorem zfdT {f f5 : Nat → Int32} {n n5 a b c d e : Int32} (h : sF5 a b c d e (sB f n.toInt, n.toInt) = (sB f5 n5.toInt, n5.toInt)) (ht : zTy n5 f5) : zTy n f5 := by
  have g := sF5_ge a b c d e (sB f n.toInt, n.toInt)
  rw [h] at g
  exact zTy_le ht g.1
