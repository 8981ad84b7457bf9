theorem sNm2_v {g : Int → Int} {hi p : Int} (h : (sNm2 g hi p).1 = 1) : 0 ≤ sVl2 g p ∧ sVl2 g p ≤ hi := by
  unfold sNm2 at h
  unfold sVl2
  by_cases d0 : 48 ≤ g p ∧ g p ≤ 57
  · rw [if_neg (fun q => q d0)] at h
    by_cases d1 : 48 ≤ g (p + 1) ∧ g (p + 1) ≤ 57
    · rw [if_neg (fun q => q d1)] at h ⊢
      by_cases d2 : 48 ≤ g (p + 2) ∧ g (p + 2) ≤ 57
      · rw [if_pos d2] at h
        exact absurd h zne1
      · rw [if_neg d2] at h
        by_cases d3 : 10 * (g p - 48) + (g (p + 1) - 48) ≤ hi
        · omega
        · rw [if_neg d3] at h
          exact absurd h zne1
    · rw [if_pos d1] at h ⊢
      by_cases d3 : g p - 48 ≤ hi
      · omega
      · rw [if_neg d3] at h
        exact absurd h zne1
  · rw [if_pos d0] at h
    exact absurd h zne1
theorem sIv_b {g : Int → Int} {n : Int} {cl j : Nat} : ∀ (k : Nat) (hd : Int32) (a x : Int), (n - a).toNat ≤ k → (0 ≤ x ∧ x ≤ cHi cl (Int32.ofNat j)) → 0 ≤ sIv g n cl j hd a x ∧ sIv g n cl j hd a x ≤ cHi cl (Int32.ofNat j) := by
  intro k
  induction k with
  | zero =>
    intro hd a x hk hx
    have := sk_ge g n a
    rw [sIv_end (fun z => by omega)]
    exact hx
  | succ k ih =>
    intro hd a x hk hx
    have s := sk_ge g n a
    by_cases c : sk g n a < n ∧ ¬ cIt cl (g (sk g n a)) = -1 ∧ ¬ cBt hd (cIt cl (g (sk g n a))) = 1
    · by_cases h2 : (sIt1 g n cl (sk g n a)).1 = 1
      · have m : sk g n (sk g n a + 1) < (sIt1 g n cl (sk g n a)).2 := sNm2_mono g _ _ h2
        have s2 := sk_ge g n (sk g n a + 1)
        rw [sIv_go c h2 (by omega)]
        refine ih _ _ _ (by omega) ?_
        by_cases q : j = (cIt cl (g (sk g n a))).toNatClampNeg
        · rw [if_pos q]
          have v := sNm2_v h2
          rcases cIt_rng cl (g (sk g n a)) with e | e
          · exact absurd e c.2.1
          · have kk : cIt cl (g (sk g n a)) = Int32.ofNat j := by
              rw [q]
              exact zk32 e.1
            rw [kk] at v
            exact v
        · rw [if_neg q]
          exact hx
      · rw [sIv_bad c h2]
        exact hx
    · rw [sIv_end c]
      exact hx
def hBr (k : Nat) : Int := if k = 1 then 99 else 9
def hPa (k : Nat) : Int := if k = 1 then 30 else if k = 3 then 3 else 9
def hRu (k : Nat) : Int := if k = 0 then 99 else 9
def zKb (nb np : Int) (c : zK3) : Prop := (∀ j : Nat, j < 3 → 0 ≤ (c.1 j).toInt ∧ (c.1 j).toInt ≤ hRu j) ∧ (∀ j : Nat, (j : Int) < 4 * nb → 0 ≤ (c.2.1 j).toInt ∧ (c.2.1 j).toInt ≤ hBr (j % 4)) ∧ ∀ j : Nat, (j : Int) < 4 * np → 0 ≤ (c.2.2 j).toInt ∧ (c.2.2 j).toInt ≤ hPa (j % 4)
theorem sVr_b {g : Int → Int} {n : Int} {cl : Nat} {q : Int} {j : Nat} {B : Int} (hB : cHi cl (Int32.ofNat j) = B) (hd : 0 ≤ cDf cl j ∧ cDf cl j ≤ B) (h9 : B ≤ 99) : 0 ≤ (sVr g n cl q j).toInt ∧ (sVr g n cl q j).toInt ≤ B := by
  have v := sIv_b (g := g) (n := n) (cl := cl) (j := j) _ 0 q (cDf cl j) (Nat.le_refl _) (by rw [hB]; exact hd)
  rw [hB] at v
  unfold sVr
  rw [Int32.toInt_ofInt_of_le (by omega) (by omega)]
  exact v
theorem sVr_0 {g : Int → Int} {n q : Int} : ∀ j : Nat, j < 3 → 0 ≤ (sVr g n 0 q j).toInt ∧ (sVr g n 0 q j).toInt ≤ hRu j := by
  intro j hj
  match j, hj with
  | 0, _ => exact sVr_b (by decide) (by decide) (by decide)
  | 1, _ => exact sVr_b (by decide) (by decide) (by decide)
  | 2, _ => exact sVr_b (by decide) (by decide) (by decide)
  | j + 3, h => exact absurd h (by omega)
theorem sVr_1 {g : Int → Int} {n q : Int} : ∀ j : Nat, j < 4 → 0 ≤ (sVr g n 1 q j).toInt ∧ (sVr g n 1 q j).toInt ≤ hBr j := by
  intro j hj
  match j, hj with
  | 0, _ => exact sVr_b (by decide) (by decide) (by decide)
  | 1, _ => exact sVr_b (by decide) (by decide) (by decide)
  | 2, _ => exact sVr_b (by decide) (by decide) (by decide)
  | 3, _ => exact sVr_b (by decide) (by decide) (by decide)
  | j + 4, h => exact absurd h (by omega)
theorem sVr_2 {g : Int → Int} {n q : Int} : ∀ j : Nat, j < 4 → 0 ≤ (sVr g n 2 q j).toInt ∧ (sVr g n 2 q j).toInt ≤ hPa j := by
  intro j hj
  match j, hj with
  | 0, _ => exact sVr_b (by decide) (by decide) (by decide)
  | 1, _ => exact sVr_b (by decide) (by decide) (by decide)
  | 2, _ => exact sVr_b (by decide) (by decide) (by decide)
  | 3, _ => exact sVr_b (by decide) (by decide) (by decide)
  | j + 4, h => exact absurd h (by omega)
theorem sRw_b {m : Int} {f h : Nat → Int32} {B : Nat → Int} (h0 : 0 ≤ m) (hf : ∀ j : Nat, (j : Int) < 4 * m → 0 ≤ (f j).toInt ∧ (f j).toInt ≤ B (j % 4)) (hh : ∀ j : Nat, j < 4 → 0 ≤ (h j).toInt ∧ (h j).toInt ≤ B j) : ∀ j : Nat, (j : Int) < 4 * (m + 1) → 0 ≤ (sRw m f h j).toInt ∧ (sRw m f h j).toInt ≤ B (j % 4) := by
  intro j hj
  unfold sRw
  by_cases q : (j : Int) < 4 * m
  · rw [if_pos q]
    exact hf j q
  · rw [if_neg q]
    have e : j % 4 = j - (4 * m).toNat := by omega
    rw [e]
    exact hh _ (by omega)
theorem sCv_b {g : Int → Int} {n hr nb np a : Int} {c : zK3} (h : zKb nb np c) (h0 : 0 ≤ nb) (h1 : 0 ≤ np) : zKb (sCs hr nb np (g (sk g n a))).2.1 (sCs hr nb np (g (sk g n a))).2.2 (sCv g n hr nb np a c) ∧ 0 ≤ (sCs hr nb np (g (sk g n a))).2.1 ∧ 0 ≤ (sCs hr nb np (g (sk g n a))).2.2 := by
  obtain ⟨k1, k2, k3⟩ := h
  unfold sCs sCv
  by_cases q1 : g (sk g n a) = 115 ∧ hr = 0
  · rw [if_pos q1, if_pos q1]
    exact ⟨⟨sVr_0, k2, k3⟩, h0, h1⟩
  · rw [if_neg q1, if_neg q1]
    by_cases q2 : g (sk g n a) = 98 ∧ nb < 6
    · rw [if_pos q2, if_pos q2]
      exact ⟨⟨k1, sRw_b h0 k2 sVr_1, k3⟩, by show 0 ≤ nb + 1; omega, h1⟩
    · rw [if_neg q2, if_neg q2]
      by_cases q3 : g (sk g n a) = 112 ∧ np < 5
      · rw [if_pos q3, if_pos q3]
        exact ⟨⟨k1, k2, sRw_b h1 k3 sVr_2⟩, h0, by show 0 ≤ np + 1; omega⟩
      · rw [if_neg q3, if_neg q3]
        exact ⟨⟨k1, k2, k3⟩, h0, h1⟩
theorem sCe_2 {n p : Int} {s : Int × Int × Int} : (sCe n p s).2 = s := by
  unfold sCe
  by_cases q : n ≤ p ∧ 0 < s.2.1 ∧ 0 < s.2.2
  · rw [if_pos q]
  · rw [if_neg q]
theorem sCoV_b {g : Int → Int} {n : Int} : ∀ (k : Nat) (s : Int × Int × Int) (a : Int) (c : zK3), (n - a).toNat ≤ k → 0 ≤ s.2.1 → 0 ≤ s.2.2 → zKb s.2.1 s.2.2 c → zKb (sCo g n s a).2.2.1 (sCo g n s a).2.2.2 (sCoV g n s a c) := by
  intro k
  induction k with
  | zero =>
    intro s a c hk h0 h1 h
    obtain ⟨v, -, -⟩ := sCv_b (g := g) (n := n) (hr := s.1) (a := a) h h0 h1
    rw [sCo, sCoV]
    by_cases q : (sCc g n s.1 s.2.1 s.2.2 a).1 = 1
    · rw [if_pos q, if_pos q, dif_neg (fun z => by omega), dif_neg (fun z => by omega), sCe_2]
      exact v
    · rw [if_neg q, if_neg q]
      exact v
  | succ k ih =>
    intro s a c hk h0 h1 h
    obtain ⟨v, v0, v1⟩ := sCv_b (g := g) (n := n) (hr := s.1) (a := a) h h0 h1
    rw [sCo, sCoV]
    by_cases q : (sCc g n s.1 s.2.1 s.2.2 a).1 = 1
    · rw [if_pos q, if_pos q]
      by_cases q2 : sk g n (sCc g n s.1 s.2.1 s.2.2 a).2 < n ∧ g (sk g n (sCc g n s.1 s.2.1 s.2.2 a).2) = 59 ∧ a ≤ sk g n (sCc g n s.1 s.2.1 s.2.2 a).2
      · rw [dif_pos q2, dif_pos q2]
        exact ih _ _ _ (by omega) v0 v1 v
      · rw [dif_neg q2, dif_neg q2, sCe_2]
        exact v
    · rw [if_neg q, if_neg q]
      exact v
theorem sCrtV_b (g : Int → Int) (n : Int) : zKb (sCrt g n).2.2.1 (sCrt g n).2.2.2 (sCrtV g n) := by
  unfold sCrt sCrtV
  refine sCoV_b _ _ _ _ (Nat.le_refl _) (by decide) (by decide) ⟨fun j hj => ?_, fun j hj => ?_, fun j hj => ?_⟩
  · match j, hj with
    | 0, _ => decide
    | 1, _ => decide
    | 2, _ => decide
    | j + 3, h => exact absurd h (by omega)
  · exact absurd hj (by show ¬ (j : Int) < 4 * 0; omega)
  · exact absurd hj (by show ¬ (j : Int) < 4 * 0; omega)
