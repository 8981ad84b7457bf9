theorem zlc {x y : Int64} {v : Int32} (e : v = if x > y then 1 else if x = y then 0 else -1) : (0 < v.toInt ↔ y.toInt < x.toInt) ∧ (v.toInt < 0 ↔ x.toInt < y.toInt) := by
  by_cases h : x > y
  · rw [if_pos h] at e
    have h2 : y.toInt < x.toInt := Int64.lt_iff_toInt_lt.mp h
    rw [e, show (1 : Int32).toInt = 1 from by decide]
    omega
  · rw [if_neg h] at e
    have h2 : ¬ y.toInt < x.toInt := fun z => h (Int64.lt_iff_toInt_lt.mpr z)
    by_cases q : x = y
    · rw [if_pos q] at e
      rw [e, q, show (0 : Int32).toInt = 0 from by decide]
      omega
    · rw [if_neg q] at e
      have h3 : ¬ x.toInt = y.toInt := fun z => q (Int64.toInt_inj.mp z)
      rw [e, show (-1 : Int32).toInt = -1 from by decide]
      omega
theorem zi2l {a : Int64} {p : Int32} (e : a = p.toInt64) : a.toInt = p.toInt := by rw [e]; exact Int32.toInt_toInt64 p
theorem zi32b (p : Int32) : -2147483648 ≤ p.toInt ∧ p.toInt ≤ 2147483647 := by
  have h1 := Int32.le_toInt p
  have h2 := Int32.toInt_lt p
  omega
theorem zjA {a b v : Int64} {p q : Int32} (ea : a = p.toInt64) (eb : b = q.toInt64) (e : v = a + b) : v.toInt = p.toInt + q.toInt := by
  have h1 := zi32b p
  have h2 := zi32b q
  rw [e, Int64.toInt_add, zi2l ea, zi2l eb]
  exact Int.bmod_eq_of_le (by omega) (by omega)
theorem zjS {a b v : Int64} {p q : Int32} (ea : a = p.toInt64) (eb : b = q.toInt64) (e : v = a - b) : v.toInt = p.toInt - q.toInt := by
  have h1 := zi32b p
  have h2 := zi32b q
  rw [e, Int64.toInt_sub, zi2l ea, zi2l eb]
  exact Int.bmod_eq_of_le (by omega) (by omega)
theorem zmulb {a b : Int} (ha : -2147483648 ≤ a ∧ a ≤ 2147483647) (hb : -2147483648 ≤ b ∧ b ≤ 2147483647) : -4611686018427387904 ≤ a * b ∧ a * b ≤ 4611686018427387904 := by
  have h : (a * b).natAbs ≤ 2147483648 * 2147483648 := by
    rw [Int.natAbs_mul]
    exact Nat.mul_le_mul (by omega) (by omega)
  omega
theorem zjM {a b v : Int64} {p q : Int32} (ea : a = p.toInt64) (eb : b = q.toInt64) (e : v = a * b) : v.toInt = p.toInt * q.toInt := by
  have h1 := zmulb (zi32b p) (zi32b q)
  rw [e, Int64.toInt_mul, zi2l ea, zi2l eb]
  exact Int.bmod_eq_of_le (by omega) (by omega)
theorem zjHi {X : Int64} {v : Int32} {z : Int} (hX : X.toInt = z) (e : v = if X > 1000000 then 1 else if X = 1000000 then 0 else -1) (h : 0 < v.toInt) : (1000000 : Int32) = zC6 z := by
  have k := (zlc e).1.mp h
  rw [show (1000000 : Int64).toInt = 1000000 from by decide, hX] at k
  unfold zC6
  rw [if_pos k]
  rfl
theorem zjLo {X : Int64} {v u : Int32} {z : Int} (hX : X.toInt = z) (e : v = if X > 1000000 then 1 else if X = 1000000 then 0 else -1) (h : v.toInt ≤ 0) (e2 : u = if X > -1000000 then 1 else if X = -1000000 then 0 else -1) (h2 : u.toInt < 0) : (-1000000 : Int32) = zC6 z := by
  have k2 := (zlc e2).2.mp h2
  rw [show (-1000000 : Int64).toInt = -1000000 from by decide, hX] at k2
  unfold zC6
  rw [if_neg (by omega), if_pos k2]
  rfl
theorem zjMd {X : Int64} {v u r : Int32} {z : Int} (hX : X.toInt = z) (e : v = if X > 1000000 then 1 else if X = 1000000 then 0 else -1) (h : v.toInt ≤ 0) (e2 : u = if X > -1000000 then 1 else if X = -1000000 then 0 else -1) (h2 : 0 ≤ u.toInt) (er : r = X.toInt32) : r = zC6 z := by
  have k1 : ¬ 1000000 < z := fun y => by
    have := (zlc e).1.mpr (by rw [show (1000000 : Int64).toInt = 1000000 from by decide, hX]; exact y)
    omega
  have k2 : ¬ z < -1000000 := fun y => by
    have := (zlc e2).2.mpr (by rw [show (-1000000 : Int64).toInt = -1000000 from by decide, hX]; exact y)
    omega
  have k3 := zC6_i z
  rw [if_neg k1, if_neg k2] at k3
  refine Int32.toInt_inj.mp ?_
  rw [k3, er, Int64.toInt_toInt32, hX]
  exact Int.bmod_eq_of_le (by omega) (by omega)
theorem b_lt {x : Int32} {m i : Nat} (h0 : 0 ≤ x.toInt) (h : x.toInt.toNat < 2 ^ m) (hi : m ≤ i) : bt x i = false := by
  rw [zk32 h0]
  show (BitVec.ofNat 32 x.toInt.toNat).getLsbD i = false
  rw [BitVec.getLsbD_ofNat, Nat.testBit_lt_two_pow (Nat.lt_of_lt_of_le h (Nat.pow_le_pow_right (by decide) hi)), Bool.and_false]
theorem zdec {t : Int × Int} {x : Int32} (e : x = eC t) (h0 : 0 ≤ t.1) (h1 : t.1 ≤ 255) (h2 : 0 ≤ t.2) (h3 : t.2 ≤ 9999) : x &&& 255 = Int32.ofInt t.1 ∧ x >>> ((8 : Int32) &&& 31) = Int32.ofInt t.2 := by
  have hp : (Int32.ofInt t.1).toInt = t.1 := Int32.toInt_ofInt_of_le (by omega) (by omega)
  have hq : (Int32.ofInt t.2).toInt = t.2 := Int32.toInt_ofInt_of_le (by omega) (by omega)
  have e : x = Int32.ofInt t.1 ||| (Int32.ofInt t.2 <<< ((8 : Int32) &&& 31)) := by
    rw [e, z8a]
    rfl
  generalize Int32.ofInt t.1 = p at *
  generalize Int32.ofInt t.2 = q at *
  have lp : ∀ i : Nat, 8 ≤ i → bt p i = false := fun i hi => b_lt (m := 8) (by omega) (by omega) hi
  have lq : ∀ i : Nat, 14 ≤ i → bt q i = false := fun i hi => b_lt (m := 14) (by omega) (by omega) hi
  constructor
  · refine b_ext (fun i hi => ?_)
    rw [e, b_and, b_or, b_shl8 _ hi, b_255]
    by_cases c : i < 8
    · rw [decide_eq_true c, decide_eq_false (show ¬ 8 ≤ i by omega)]
      simp
    · rw [decide_eq_false c, lp i (by omega)]
      simp
  · refine b_ext (fun i hi => ?_)
    rw [b_sshr8 _ hi]
    by_cases c : 8 + i < 32
    · rw [if_pos c, e, b_or, b_shl8 _ c, lp (8 + i) (by omega), decide_eq_true (show 8 ≤ 8 + i by omega), show 8 + i - 8 = i by omega]
      simp
    · rw [if_neg c, e, b_or, b_shl8 _ (by omega), lp 31 (by omega), lq (31 - 8) (by omega), lq i (by omega)]
      simp
