abbrev zLh : Type := Int32 × (Nat → (Int → Int) × Int)
def zHo1 (l : zLh) : Option ((Int → Int) × Int) := if l.1.toInt = -1 then none else some (l.2 l.1.toInt.toNat)
def zOkS (k : Int32 × Int32 × zK3) (T : zT) (im : Int32 × zS) : Prop := zKo k.1.toInt k.2.1.toInt k.2.2 T ∧ (im.1.toInt = 0 ∨ zSb k.1.toInt k.2.1.toInt im.2)
theorem zOkS_T {k : Int32 × Int32 × zK3} {T T' : zT} {im : Int32 × zS} (h : zOkS k T im) (hT : zTb5 k.1.toInt k.2.1.toInt T → zTb5 k.1.toInt k.2.1.toInt T') : zOkS k T' im := ⟨⟨h.1.1, hT h.1.2⟩, h.2⟩
theorem ok_pay {k : Int32 × Int32 × zK3} {T : zT} {im : Int32 × zS} {b n : Int32} (h : zOkS k T im) : zOkS k (sDo (sW_pay k.1.toInt T.1 b n) T (sSetY T.1 b.toInt.toNat (T.1.1 b.toInt.toNat + n))) im := zOkS_T h (fun t => sDo_b t (fun q => by
  unfold sW_pay at q
  by_cases c1 : ¬ (0 ≤ b.toInt ∧ b.toInt < k.1.toInt)
  · rw [if_pos c1] at q
    exact absurd q (by decide)
  · rw [if_neg c1] at q
    by_cases c2 : ¬ (-9 ≤ n.toInt ∧ n.toInt ≤ 9) ∨ n.toInt = 0 ∨ ¬ (0 ≤ (T.1.1 b.toInt.toNat).toInt + n.toInt ∧ (T.1.1 b.toInt.toNat).toInt + n.toInt ≤ 9)
    · rw [if_pos c2] at q
      exact absurd q (by decide)
    · have e : (T.1.1 b.toInt.toNat + n).toInt = (T.1.1 b.toInt.toNat).toInt + n.toInt := zadd rfl rfl rfl (by omega) (by omega)
      exact ⟨sSetY_b t.2.2.1 (by omega), Int.le_refl _⟩))
theorem ok_thr {k : Int32 × Int32 × zK3} {T : zT} {im : Int32 × zS} {p : Int32} (h : zOkS k T im) : zOkS k (sDo (sW_thr k.2.1.toInt T.1 p) T (sSetF T.1 p.toInt.toNat (T.1.2.1 p.toInt.toNat + 1))) im := zOkS_T h (fun t => sDo_b t (fun q => by
  unfold sW_thr at q
  by_cases c1 : ¬ (0 ≤ p.toInt ∧ p.toInt < k.2.1.toInt)
  · rw [if_pos c1] at q
    exact absurd q (by decide)
  · rw [if_neg c1] at q
    by_cases c2 : 9 ≤ (T.1.2.1 p.toInt.toNat).toInt
    · rw [if_pos c2] at q
      exact absurd q (by decide)
    · have y := t.2.2.1.2.1 p.toInt.toNat (by omega)
      have e : (T.1.2.1 p.toInt.toNat + 1).toInt = (T.1.2.1 p.toInt.toNat).toInt + 1 := zadd rfl rfl (by decide) (by omega) (by omega)
      exact ⟨sSetF_b t.2.2.1 (by omega), Int.le_refl _⟩))
theorem ok_ltr {k : Int32 × Int32 × zK3} {T : zT} {im : Int32 × zS} {b : Int32} {w : Int} (h : zOkS k T im) : zOkS k (sDo w T (sN_ltr T.1 b)) im := zOkS_T h (fun t => sDo_b t (fun _ => ⟨t.2.2.1, Int.le_refl _⟩))
theorem ok_sho {k : Int32 × Int32 × zK3} {T : zT} {im : Int32 × zS} {b : Int32} {w : Int} (h : zOkS k T im) : zOkS k (sDo w T (sN_sho T.1 b)) im := zOkS_T h (fun t => sDo_b t (fun _ => ⟨t.2.2.1, Int.le_refl _⟩))
theorem ok_wed {k : Int32 × Int32 × zK3} {T : zT} {im : Int32 × zS} {b : Int32} (h : zOkS k T im) : zOkS k (sDo (sW_wed k.1.toInt T.1 b) T (sN_wed k.2.2 T.1 b)) im := zOkS_T h (fun t => sDo_b t (fun q => by
  unfold sW_wed at q
  by_cases c1 : ¬ (0 ≤ b.toInt ∧ b.toInt < k.1.toInt)
  · rw [if_pos c1] at q
    exact absurd q (by decide)
  · obtain ⟨a1, a2, -, a4, a5, a6⟩ := t.2.2.1
    exact ⟨⟨a1, a2, (show -1 ≤ b.toInt ∧ b.toInt < k.1.toInt by omega), a4, a5, a6⟩, Int.le_refl _⟩))
theorem ok_ann {k : Int32 × Int32 × zK3} {T : zT} {im : Int32 × zS} {w : Int} (h : zOkS k T im) : zOkS k (sDo w T (sN_ann T.1)) im := zOkS_T h (fun t => sDo_b t (fun _ => by
  obtain ⟨a1, a2, -, a4, a5, a6⟩ := t.2.2.1
  have m : (-1 : Int32).toInt = -1 := by decide
  have n0 := t.1.1
  exact ⟨⟨a1, a2, (show -1 ≤ (-1 : Int32).toInt ∧ (-1 : Int32).toInt < k.1.toInt by omega), a4, a5, a6⟩, Int.le_refl _⟩))
theorem ok_mon {k : Int32 × Int32 × zK3} {T : zT} {im : Int32 × zS} {n : Int32} (h : zOkS k T im) : zOkS k (sT_mon k.1.toInt T n) im := zOkS_T h (fun t => by
  unfold sT_mon
  by_cases q : sW_mon k.1.toInt T.1 n = -1
  · rw [if_pos q]
    unfold sW_mon at q
    by_cases c1 : k.1.toInt ≤ 0
    · rw [if_pos c1] at q
      exact absurd q (by decide)
    · rw [if_neg c1] at q
      by_cases c2 : ¬ (1 ≤ n.toInt ∧ n.toInt ≤ 60)
      · rw [if_pos c2] at q
        exact absurd q (by decide)
      · rw [if_neg c2] at q
        by_cases c3 : 999 < (T.1.2.2.2.1.2.1 + n).toInt
        · rw [if_pos c3] at q
          exact absurd q (by decide)
        · have m := t.2.2.1.2.2.2.1
          have e : (T.1.2.2.2.1.2.1 + n).toInt = T.1.2.2.2.1.2.1.toInt + n.toInt := zadd rfl rfl rfl (by omega) (by omega)
          exact (sMon_b t _ (by omega)).1
  · rw [if_neg q]
    exact t)
theorem ok_pnt {k : Int32 × Int32 × zK3} {T : zT} {im : Int32 × zS} {lw : Option ((Int → Int) × Int)} {p b : Int32} (h : zOkS k T im) : zOkS k (sDo (sW_pnt k.1.toInt k.2.1.toInt k.2.2 T.1 p b) T (sN_pnt k.2.2 T.1 lw p b)) im := zOkS_T h (fun t => sDo_b t (fun q => by
  unfold sW_pnt at q
  by_cases c1 : ¬ ((0 ≤ p.toInt ∧ p.toInt < k.2.1.toInt) ∧ 0 ≤ b.toInt ∧ b.toInt < k.1.toInt)
  · rw [if_pos c1] at q
    exact absurd q (by decide)
  · rw [if_neg c1] at q
    by_cases c2 : T.1.2.2.2.1.1.toInt < (k.2.2.2.2 (4 * p.toInt.toNat + 1)).toInt
    · rw [if_pos c2] at q
      exact absurd q (by decide)
    · rw [if_neg c2] at q
      by_cases c3 : 20 ≤ T.1.2.2.2.1.2.2.toInt
      · rw [if_pos c3] at q
        exact absurd q (by decide)
      · have z := sPnt_b (c := k.2.2) (lw := lw) t.2.2.1 (p := p) (b := b) (by omega) (by omega) (by omega)
        exact ⟨z.1, by rw [z.2]; omega⟩))
theorem ok_dec {k : Int32 × Int32 × zK3} {T : zT} {im : Int32 × zS} {lw : Option ((Int → Int) × Int)} {br n : Int32} {x : Int64} (h : zOkS k T im) : zOkS k (sT_dec k.1 k.2.1 br k.2.2 lw T n x) im := zOkS_T h (fun t => by
  unfold sT_dec
  by_cases q : sQ_dec k.1.toInt T.1 n
  · rw [if_pos q]
    unfold sQ_dec at q
    have m := t.2.2.1.2.2.2.1
    have e : (T.1.2.2.2.1.2.1 + n).toInt = T.1.2.2.2.1.2.1.toInt + n.toInt := zadd rfl rfl rfl (by omega) (by omega)
    have n1 := h.1.1.2
    exact (sDec_b t (by omega) (by omega) _ (by omega)).1
  · rw [if_neg q]
    exact t)
theorem ok_und {k : Int32 × Int32 × zK3} {T : zT} {im : Int32 × zS} (h : zOkS k T im) : zOkS k (sT_und T) im := zOkS_T h (fun t => by
  obtain ⟨S, Ks, q⟩ := T
  obtain ⟨t1, t2, t3, t4, t5⟩ := t
  cases Ks with
  | nil => exact ⟨t1, t2, t3, t4, t5⟩
  | cons K Ks => exact ⟨t1, t2, t5 K List.mem_cons_self, t4.2, fun A hA => t5 A (List.mem_cons_of_mem _ hA)⟩)
theorem ok_img {k : Int32 × Int32 × zK3} {T : zT} {im : Int32 × zS} (h : zOkS k T im) : zOkS k T (sI_img k.1.toInt T im) := by
  refine ⟨h.1, ?_⟩
  unfold sI_img
  by_cases q : 0 < k.1.toInt
  · rw [if_pos q]
    exact Or.inr h.1.2.2.2.1
  · rw [if_neg q]
    exact h.2
theorem ok_bck {k : Int32 × Int32 × zK3} {T : zT} {im : Int32 × zS} (h : zOkS k T im) : zOkS k (sT_bck im T) im := zOkS_T h (fun t => by
  unfold sT_bck
  by_cases q : im.1.toInt = 0
  · rw [if_pos q]
    exact t
  · rw [if_neg q]
    exact ⟨t.1, t.2.1, h.2.resolve_left q, trivial, fun K hK => absurd hK (by simp)⟩)
def sTT_text (t : (Int → Int) × Int) (T : zT) (p : Int32) : zT := if p.toInt = 0 ∧ (sCrt t.1 t.2).1 = -1 then (sBeg (sCrtV t.1 t.2), [], T.2.2) else T
def sI_text (t : (Int → Int) × Int) (im : Int32 × zS) (p : Int32) : Int32 × zS := if p.toInt = 0 ∧ (sCrt t.1 t.2).1 = -1 then (0, im.2) else im
theorem sCs_b {hr nb np c : Int} (h : 0 ≤ nb ∧ nb ≤ 6) (h2 : 0 ≤ np ∧ np ≤ 5) : (0 ≤ (sCs hr nb np c).2.1 ∧ (sCs hr nb np c).2.1 ≤ 6) ∧ 0 ≤ (sCs hr nb np c).2.2 ∧ (sCs hr nb np c).2.2 ≤ 5 := by
  unfold sCs
  by_cases q1 : c = 115 ∧ hr = 0
  · rw [if_pos q1]
    exact ⟨h, h2⟩
  · rw [if_neg q1]
    by_cases q2 : c = 98 ∧ nb < 6
    · rw [if_pos q2]
      exact ⟨(show 0 ≤ nb + 1 ∧ nb + 1 ≤ 6 by omega), h2⟩
    · rw [if_neg q2]
      by_cases q3 : c = 112 ∧ np < 5
      · rw [if_pos q3]
        exact ⟨h, (show 0 ≤ np + 1 ∧ np + 1 ≤ 5 by omega)⟩
      · rw [if_neg q3]
        exact ⟨h, h2⟩
theorem sCo_b {g : Int → Int} {n : Int} : ∀ (k : Nat) (s : Int × Int × Int) (a : Int), (n - a).toNat ≤ k → (0 ≤ s.2.1 ∧ s.2.1 ≤ 6) → (0 ≤ s.2.2 ∧ s.2.2 ≤ 5) → (0 ≤ (sCo g n s a).2.2.1 ∧ (sCo g n s a).2.2.1 ≤ 6) ∧ 0 ≤ (sCo g n s a).2.2.2 ∧ (sCo g n s a).2.2.2 ≤ 5 := by
  intro k
  induction k with
  | zero =>
    intro s a hk h h2
    have b := sCs_b (hr := s.1) (c := g (sk g n a)) h h2
    rw [sCo]
    by_cases q : (sCc g n s.1 s.2.1 s.2.2 a).1 = 1
    · rw [if_pos q, dif_neg (fun z => by omega), sCe_2]
      exact b
    · rw [if_neg q]
      exact b
  | succ k ih =>
    intro s a hk h h2
    have b := sCs_b (hr := s.1) (c := g (sk g n a)) h h2
    rw [sCo]
    by_cases q : (sCc g n s.1 s.2.1 s.2.2 a).1 = 1
    · rw [if_pos q]
      by_cases q2 : sk g n (sCc g n s.1 s.2.1 s.2.2 a).2 < n ∧ g (sk g n (sCc g n s.1 s.2.1 s.2.2 a).2) = 59 ∧ a ≤ sk g n (sCc g n s.1 s.2.1 s.2.2 a).2
      · rw [dif_pos q2]
        exact ih _ _ (by omega) b.1 b.2
      · rw [dif_neg q2, sCe_2]
        exact b
    · rw [if_neg q]
      exact b
theorem sCrt_b (g : Int → Int) (n : Int) : (0 ≤ (sCrt g n).2.2.1 ∧ (sCrt g n).2.2.1 ≤ 6) ∧ 0 ≤ (sCrt g n).2.2.2 ∧ (sCrt g n).2.2.2 ≤ 5 := sCo_b _ _ _ (Nat.le_refl _) (by decide) (by decide)
theorem sBeg_b {nb np : Int} {c : zK3} (h : zKb nb np c) (h0 : 0 ≤ nb) : zSb nb np (sBeg c) := by
  obtain ⟨h1, h2, h3⟩ := h
  have n0 : (0 : Int32).toInt = 0 := by decide
  have n1 : (-1 : Int32).toInt = -1 := by decide
  refine ⟨fun i hi => ?_, fun i hi => ?_, (show -1 ≤ (-1 : Int32).toInt ∧ (-1 : Int32).toInt < nb by omega), (show 0 ≤ (0 : Int32).toInt ∧ (0 : Int32).toInt ≤ 999 by omega), (show 0 ≤ (0 : Int32).toInt ∧ (0 : Int32).toInt ≤ 20 by omega), fun i hi => ?_⟩
  · have a := h2 (4 * i + 3) (by omega)
    have e : hBr ((4 * i + 3) % 4) = 9 := by
      rw [show (4 * i + 3) % 4 = 3 by omega]
      rfl
    rw [e] at a
    exact a
  · have a := h3 (4 * i + 2) (by omega)
    have e : hPa ((4 * i + 2) % 4) = 9 := by
      rw [show (4 * i + 2) % 4 = 2 by omega]
      rfl
    rw [e] at a
    exact a
  · have hi : (i : Int) < (0 : Int32).toInt := hi
    omega
theorem ok_text {k : Int32 × Int32 × zK3} {T : zT} {im : Int32 × zS} {t : (Int → Int) × Int} {p : Int32} (h : zOkS k T im) (hn : (sK_text t k p).1.toInt = 0 ∨ 1 ≤ (sK_text t k p).2.1.toInt) : zOkS (sK_text t k p) (sTT_text t T p) (sI_text t im p) := by
  unfold sK_text at hn ⊢
  unfold sTT_text sI_text
  by_cases q : p.toInt = 0 ∧ (sCrt t.1 t.2).1 = -1
  · rw [if_pos q] at hn
    rw [if_pos q, if_pos q, if_pos q]
    have b := sCrt_b t.1 t.2
    have e1 : (Int32.ofInt (sCrt t.1 t.2).2.2.1).toInt = (sCrt t.1 t.2).2.2.1 := Int32.toInt_ofInt_of_le (by omega) (by omega)
    have e2 : (Int32.ofInt (sCrt t.1 t.2).2.2.2).toInt = (sCrt t.1 t.2).2.2.2 := Int32.toInt_ofInt_of_le (by omega) (by omega)
    have kb := sCrtV_b t.1 t.2
    unfold zOkS
    dsimp only at hn ⊢
    rw [e1, e2] at hn ⊢
    exact ⟨⟨⟨kb, hn⟩, b.1, b.2, sBeg_b kb b.1.1, trivial, fun K hK => absurd hK (by simp)⟩, Or.inl (by decide)⟩
  · rw [if_neg q, if_neg q, if_neg q]
    exact h
