theorem zSr_pn {nb np : Int} {S : zS} {N : Nat → Int32} (h : zSr nb np S N) : S.2.2.2.1.2.2 = N 16 := congrArg (fun t : Int32 × Int32 × Int32 => t.2.2) h.2.2.2.1
theorem zSr_mo {nb np : Int} {S : zS} {N : Nat → Int32} (h : zSr nb np S N) : S.2.2.2.1.2.1 = N 15 := congrArg (fun t : Int32 × Int32 × Int32 => t.2.1) h.2.2.2.1
theorem zSr_pu {nb np : Int} {S : zS} {N : Nat → Int32} (h : zSr nb np S N) : S.2.2.2.1.1 = N 14 := congrArg (fun t : Int32 × Int32 × Int32 => t.1) h.2.2.2.1
theorem zSr_lt {nb np : Int} {S : zS} {N : Nat → Int32} (h : zSr nb np S N) : S.2.2.1.1 = N 11 := congrArg (fun t : Int32 × Int32 × Int32 => t.1) h.2.2.1
theorem zSr_sh {nb np : Int} {S : zS} {N : Nat → Int32} (h : zSr nb np S N) : S.2.2.1.2.1 = N 12 := congrArg (fun t : Int32 × Int32 × Int32 => t.2.1) h.2.2.1
theorem zSr_wd {nb np : Int} {S : zS} {N : Nat → Int32} (h : zSr nb np S N) : S.2.2.1.2.2 = N 13 - 1 := congrArg (fun t : Int32 × Int32 × Int32 => t.2.2) h.2.2.1
theorem zSr_P {nb np : Int} {S : zS} {N : Nat → Int32} (h : zSr nb np S N) : ∀ i : Nat, i < 4 * (N 16).toInt.toNat → N (17 + i) = S.2.2.2.2 i := fun i hi => h.2.2.2.2 i (by omega)
theorem zActRr {nb np : Int} {T : zT} {S : zS} {N f rf rf' : Nat → Int32} {ac v : Int32} {w x : Int} (hw : w = x) (hx : 0 ≤ x) (h : zTr nb np T N f ac rf) (e : zRf rf rf' x) : (-1 : Int32) = sA w v ∧ zTr nb np (sDo w T S) N f ac rf' := by
  have q : ¬ w = -1 := by omega
  unfold sA sDo
  rw [if_neg q, if_neg q]
  refine ⟨rfl, h.1, h.2.1, ?_⟩
  rw [hw]
  exact e _ h.2.2
theorem zTr_ref {nb np : Int} {T : zT} {N f rf rf' : Nat → Int32} {ac : Int32} {w x : Int} (hw : w = x) (h : zTr nb np T N f ac rf) (e : zRf rf rf' x) : zTr nb np (sRef T w) N f ac rf' := by
  refine ⟨h.1, h.2.1, ?_⟩
  rw [hw]
  exact e _ h.2.2
theorem zActKr {nb np : Int} {T : zT} {S' : zS} {N N' f f' rf rf' : Nat → Int32} {ac ac' : Int32} (h : zTr nb np T N f ac rf) (k : zKr nb np (sKeep T.1 T.2.1) f' ac') (s : zSr nb np S' N') (er : rf' = rf) : zTr nb np (sAct T S') N' f' ac' rf' := by
  rw [er]
  exact ⟨s, k, h.2.2⟩
theorem zActAr {nb np : Int} {T : zT} {S' : zS} {N N' f f' rf rf' : Nat → Int32} {ac ac' r v : Int32} {w : Int} (hw : w = -1) (h : zTr nb np T N f ac rf) (k : zKr nb np (sKeep T.1 T.2.1) f' ac') (s : zSr nb np S' N') (er : rf' = rf) (e : r = v) : r = sA w v ∧ zTr nb np (sDo w T S') N' f' ac' rf' := by
  unfold sA sDo
  rw [if_pos hw, if_pos hw]
  exact ⟨e, zActKr h k s er⟩
theorem zKr_k {nb np : Int} {T : zT} {N f f' rf : Nat → Int32} {ac ac' : Int32} (hb : zTb5 nb np T) (h : zTr nb np T N f ac rf) (e : zKe f f' N ac ac') (h40 : ac.toInt ≤ 40) : zKr nb np (sKeep T.1 T.2.1) f' ac' :=
  zKr_keep h.1 h.2.1 e hb.1.2 hb.2.1.2 h40 (by rw [← zSr_pn h.1]; exact hb.2.2.1.2.2.2.2.1.2) (fun K hK => (hb.2.2.2.2 K hK).2.2.2.2.1.2)
def zKq (f f1 : Nat → Int32) (ac a1 : Int32) : Prop := (ac.toInt < 40 ∧ a1.toInt = ac.toInt ∧ ∀ j : Nat, (j : Int) < 97 * a1.toInt → f1 j = f j) ∨ (40 ≤ ac.toInt ∧ a1.toInt = 39 ∧ ∀ j : Nat, (j : Int) < 97 * a1.toInt → f1 j = f (j + 97))
theorem zKq_a {f : Nat → Int32} {ac : Int32} (h : ac.toInt < 40) : zKq f f ac ac := Or.inl ⟨h, rfl, fun _ _ => rfl⟩
theorem zKq_b {f f1 : Nat → Int32} {ac a1 k : Int32} (s : zSf f1 f k) (hk : 3880 ≤ k.toInt) (h : 40 ≤ ac.toInt) (h1 : a1.toInt = 39) : zKq f f1 ac a1 := Or.inr ⟨h, h1, fun j hj => s.1 j (by omega)⟩
theorem zKq_s {f f1 f2 : Nat → Int32} {ac a1 i x : Int32} (h : zKq f f1 ac a1) (e : f2 = upd f1 i.toNatClampNeg x) (hi : 97 * a1.toInt ≤ i.toInt) : zKq f f2 ac a1 := by
  have ii : i.toNatClampNeg = i.toInt.toNat := rfl
  rcases h with ⟨a, b, c⟩ | ⟨a, b, c⟩
  · exact Or.inl ⟨a, b, fun j hj => by rw [e, ii, pk_un (by omega)]; exact c j hj⟩
  · exact Or.inr ⟨a, b, fun j hj => by rw [e, ii, pk_un (by omega)]; exact c j hj⟩
theorem zKe_mk {np : Int32} {f f1 g : Nat → Int32} {ac a1 ac' k : Int32} (q : zKq f f1 ac a1) (n : zNr np a1 f1 g k) (hk : 97 ≤ k.toInt) (h0 : 0 ≤ ac.toInt) (h' : ac'.toInt = a1.toInt + 1) : zKe f f1 g ac ac' := by
  have n2 := n.2
  rcases q with ⟨a, b, c⟩ | ⟨a, b, c⟩
  · refine ⟨Or.inl ⟨a, by omega⟩, fun i hi => ?_, fun i hi => ?_⟩
    · rw [show ac'.toInt.toNat - 1 = a1.toInt.toNat by omega]
      exact n2 i (by omega)
    · rw [if_pos a, Nat.add_zero]
      exact c i (by omega)
  · refine ⟨Or.inr ⟨a, by omega⟩, fun i hi => ?_, fun i hi => ?_⟩
    · rw [show ac'.toInt.toNat - 1 = a1.toInt.toNat by omega]
      exact n2 i (by omega)
    · rw [if_neg (by omega)]
      exact c i (by omega)
theorem zSr_mid {nb np : Int} {S : zS} {N N' : Nat → Int32} {A B : Int32 × Int32 × Int32} (h : zSr nb np S N) (k : ∀ j : Nat, j < 11 ∨ 15 < j → N' j = N j) (hn : nb ≤ 6) (hp : np ≤ 5) (hA : A = (N' 11, N' 12, N' 13 - 1)) (hB : B = (N' 14, N' 15, N' 16)) : zSr nb np (S.1, S.2.1, A, B, S.2.2.2.2) N' := by
  obtain ⟨h1, h2, h3, h4, h5⟩ := h
  refine ⟨fun j hj => by rw [k _ (by omega)]; exact h1 j hj, fun j hj => by rw [k _ (by omega)]; exact h2 j hj, hA, hB, fun j hj => ?_⟩
  rw [k 16 (by omega)] at hj
  rw [k _ (by omega)]
  exact h5 j hj
theorem zadd0 {x z : Int32} (e : z = x + 0) : z = x := by
  rw [e]
  exact Int32.add_zero x
theorem zSr_L {nb np : Int} {S : zS} {N N1 N2 : Nat → Int32} {b u x p y : Int32} (h : zSr nb np S N) (eu : u = N (11 : Int32).toNatClampNeg) (ex : x = u ||| (1 <<< (b &&& 31))) (e1 : N1 = upd N (11 : Int32).toNatClampNeg x) (ep : p = N1 (14 : Int32).toNatClampNeg) (ey : y = p - 2) (e2 : N2 = upd N1 (14 : Int32).toNatClampNeg y) (hn : nb ≤ 6) (hp : np ≤ 5) : zSr nb np (sN_ltr S b) N2 := by
  rw [show (11 : Int32).toNatClampNeg = 11 by decide] at eu e1
  rw [show (14 : Int32).toNatClampNeg = 14 by decide] at ep e2
  refine zSr_mid h (fun j hj => by rw [e2, pk_un (by omega), e1, pk_un (by omega)]) hn hp ?_ ?_
  · show (S.2.2.1.1 ||| (1 <<< (b &&& 31)), S.2.2.1.2.1, S.2.2.1.2.2) = _
    rw [zSr_lt h, zSr_sh h, zSr_wd h, e2, pk_un (by decide), pk_un (by decide), pk_un (by decide), e1, pk_us, pk_un (by decide), pk_un (by decide), ex, eu]
  · show (S.2.2.2.1.1 - 2, S.2.2.2.1.2.1, S.2.2.2.1.2.2) = _
    rw [zSr_pu h, zSr_mo h, zSr_pn h, e2, pk_us, pk_un (by decide), pk_un (by decide), ey, ep, e1, pk_un (by decide), pk_un (by decide), pk_un (by decide)]
theorem zSr_S {nb np : Int} {S : zS} {N N1 N2 : Nat → Int32} {b u x p y : Int32} (h : zSr nb np S N) (eu : u = N (12 : Int32).toNatClampNeg) (ex : x = u ||| (1 <<< (b &&& 31))) (e1 : N1 = upd N (12 : Int32).toNatClampNeg x) (ep : p = N1 (14 : Int32).toNatClampNeg) (ey : y = p - 1) (e2 : N2 = upd N1 (14 : Int32).toNatClampNeg y) (hn : nb ≤ 6) (hp : np ≤ 5) : zSr nb np (sN_sho S b) N2 := by
  rw [show (12 : Int32).toNatClampNeg = 12 by decide] at eu e1
  rw [show (14 : Int32).toNatClampNeg = 14 by decide] at ep e2
  refine zSr_mid h (fun j hj => by rw [e2, pk_un (by omega), e1, pk_un (by omega)]) hn hp ?_ ?_
  · show (S.2.2.1.1, S.2.2.1.2.1 ||| (1 <<< (b &&& 31)), S.2.2.1.2.2) = _
    rw [zSr_lt h, zSr_sh h, zSr_wd h, e2, pk_un (by decide), pk_un (by decide), pk_un (by decide), e1, pk_us, pk_un (by decide), pk_un (by decide), ex, eu]
  · show (S.2.2.2.1.1 - 1, S.2.2.2.1.2.1, S.2.2.2.1.2.2) = _
    rw [zSr_pu h, zSr_mo h, zSr_pn h, e2, pk_us, pk_un (by decide), pk_un (by decide), ey, ep, e1, pk_un (by decide), pk_un (by decide), pk_un (by decide)]
theorem zSr_W {nb np : Int} {c : zK3} {S : zS} {N N1 N2 : Nat → Int32} {b x p y : Int32} (h : zSr nb np S N) (ex : x = b + 1) (e1 : N1 = upd N (13 : Int32).toNatClampNeg x) (ep : p = N1 (14 : Int32).toNatClampNeg) (ey : y = sMin 999 (p + c.2.1 (4 * b.toInt.toNat + 1) / 10)) (e2 : N2 = upd N1 (14 : Int32).toNatClampNeg y) (hn : nb ≤ 6) (hp : np ≤ 5) : zSr nb np (sN_wed c S b) N2 ∧ p = S.2.2.2.1.1 := by
  rw [show (13 : Int32).toNatClampNeg = 13 by decide] at e1
  rw [show (14 : Int32).toNatClampNeg = 14 by decide] at ep e2
  have p14 : p = N 14 := by rw [ep, e1, pk_un (by decide)]
  refine ⟨zSr_mid h (fun j hj => by rw [e2, pk_un (by omega), e1, pk_un (by omega)]) hn hp ?_ ?_, by rw [p14, zSr_pu h]⟩
  · show (S.2.2.1.1, S.2.2.1.2.1, b) = _
    rw [zSr_lt h, zSr_sh h, e2, pk_un (by decide), pk_un (by decide), pk_un (by decide), e1, pk_us, pk_un (by decide), pk_un (by decide), ex, Int32.add_sub_cancel]
  · show (sMin 999 (S.2.2.2.1.1 + c.2.1 (4 * b.toInt.toNat + 1) / 10), S.2.2.2.1.2.1, S.2.2.2.1.2.2) = _
    rw [zSr_pu h, zSr_mo h, zSr_pn h, e2, pk_us, pk_un (by decide), pk_un (by decide), ey, p14, e1, pk_un (by decide), pk_un (by decide)]
theorem zSr_N {nb np : Int} {S : zS} {N N1 : Nat → Int32} (h : zSr nb np S N) (e1 : N1 = upd N (13 : Int32).toNatClampNeg 0) (hn : nb ≤ 6) (hp : np ≤ 5) : zSr nb np (sN_ann S) N1 := by
  rw [show (13 : Int32).toNatClampNeg = 13 by decide] at e1
  refine zSr_mid h (fun j hj => by rw [e1, pk_un (by omega)]) hn hp ?_ ?_
  · show (S.2.2.1.1, S.2.2.1.2.1, (-1 : Int32)) = _
    rw [zSr_lt h, zSr_sh h, e1, pk_us, pk_un (by decide), pk_un (by decide), show (0 : Int32) - 1 = -1 by decide]
  · rw [h.2.2.2.1, e1, pk_un (by decide), pk_un (by decide), pk_un (by decide)]
theorem zSr_M {nb np : Int} {S : zS} {N N1 N2 : Nat → Int32} {u x p q y : Int32} (h : zSr nb np S N) (eu : u = N (15 : Int32).toNatClampNeg) (ex : x = u + 1) (e1 : N1 = upd N (15 : Int32).toNatClampNeg x) (ep : p = N1 (14 : Int32).toNatClampNeg) (eq : q = p + 1) (ey : y = sMin 999 q) (e2 : N2 = upd N1 (14 : Int32).toNatClampNeg y) (hn : nb ≤ 6) (hp : np ≤ 5) : zSr nb np (sPass S) N2 := by
  rw [show (15 : Int32).toNatClampNeg = 15 by decide] at eu e1
  rw [show (14 : Int32).toNatClampNeg = 14 by decide] at ep e2
  refine zSr_mid h (fun j hj => by rw [e2, pk_un (by omega), e1, pk_un (by omega)]) hn hp ?_ ?_
  · rw [h.2.2.1, e2, pk_un (by decide), pk_un (by decide), pk_un (by decide), e1, pk_un (by decide), pk_un (by decide), pk_un (by decide)]
  · show (sMin 999 (S.2.2.2.1.1 + 1), S.2.2.2.1.2.1 + 1, S.2.2.2.1.2.2) = _
    rw [zSr_pu h, zSr_mo h, zSr_pn h, e2, pk_us, pk_un (by decide), pk_un (by decide), ey, eq, ep, e1, pk_un (by decide), pk_us, pk_un (by decide), ex, eu]
theorem zSr_Pt {nb np : Int} {c : zK3} {S : zS} {lw : Option ((Int → Int) × Int)} {N N1 N2 N3 N4 N5 N6 : Nat → Int32} {i0 i1 i2 i3 p b v mo q16 x pu fee y : Int32} (h : zSr nb np S N) (e1 : N1 = upd N i0.toNatClampNeg b) (e2 : N2 = upd N1 i1.toNatClampNeg p) (e3 : N3 = upd N2 i2.toNatClampNeg v) (em : mo = N3 (15 : Int32).toNatClampNeg) (e4 : N4 = upd N3 i3.toNatClampNeg mo) (eq : q16 = N4 (16 : Int32).toNatClampNeg) (ex : x = q16 + 1) (e5 : N5 = upd N4 (16 : Int32).toNatClampNeg x) (ep : pu = N5 (14 : Int32).toNatClampNeg) (ey : y = pu - fee) (e6 : N6 = upd N5 (14 : Int32).toNatClampNeg y) (h0 : i0.toInt = 17 + 4 * (N 16).toInt) (h1 : i1.toInt = 17 + 4 * (N 16).toInt + 1) (h2 : i2.toInt = 17 + 4 * (N 16).toInt + 2) (h3 : i3.toInt = 17 + 4 * (N 16).toInt + 3) (hp : 0 ≤ (N 16).toInt) (h19 : (N 16).toInt ≤ 19) (hn : nb ≤ 6) (hnp : np ≤ 5) (ev : v = sV_pnt c S lw p b) (ef : fee = c.2.2 (4 * p.toInt.toNat + 1)) : zSr nb np (sN_pnt c S lw p b) N6 := by
  have g0 : i0.toNatClampNeg = i0.toInt.toNat := rfl
  have g1 : i1.toNatClampNeg = i1.toInt.toNat := rfl
  have g2 : i2.toNatClampNeg = i2.toInt.toNat := rfl
  have g3 : i3.toNatClampNeg = i3.toInt.toNat := rfl
  have n15 : mo = N 15 := by
    rw [em, show (15 : Int32).toNatClampNeg = 15 by decide, e3, pk_un (by omega), e2, pk_un (by omega), e1, pk_un (by omega)]
  have n16 : q16 = N 16 := by
    rw [eq, show (16 : Int32).toNatClampNeg = 16 by decide, e4, pk_un (by omega), e3, pk_un (by omega), e2, pk_un (by omega), e1, pk_un (by omega)]
  have x16 : x.toInt = (N 16).toInt + 1 := zadd ex (by rw [n16]) (by decide) (by omega) (by omega)
  have z := zSr_H (b := b) (p := p) (v := v) h e1 e2 e3 e4 e5 h0 h1 h2 h3 (by decide) hp n15 (by rw [ex, n16]) x16 hn hnp
  have zz := zSr_pn z
  have zp : pu = S.2.2.2.1.1 := by
    have := zSr_pu z
    rw [ep, show (14 : Int32).toNatClampNeg = 14 by decide, ← this]
    rfl
  rw [show (14 : Int32).toNatClampNeg = 14 by decide] at e6
  have w := zSr_mid z (N' := N6) (A := S.2.2.1) (B := (S.2.2.2.1.1 - c.2.2 (4 * p.toInt.toNat + 1), S.2.2.2.1.2.1, S.2.2.2.1.2.2 + 1)) (fun j hj => by rw [e6, pk_un (by omega)]) hn hnp ?_ ?_
  · unfold sN_pnt
    rw [← ev]
    exact w
  · have a := z.2.2.1
    rw [e6, pk_un (by decide), pk_un (by decide), pk_un (by decide)]
    exact a
  · have a0 := zSr_mo z
    have b0 := zSr_pn z
    have a : S.2.2.2.1.2.1 = N5 15 := a0
    have b : S.2.2.2.1.2.2 + 1 = N5 16 := b0
    rw [e6, pk_us, pk_un (by decide), pk_un (by decide), ← a, ← b, ey, zp, ef]
theorem sShow_r {nb np : Int} {c : zK3} {T : zT} {fr fb fp N fC fV fK fT fS fU : Nat → Int32} {ho p b f r : Int32} {lw : Option ((Int → Int) × Int)} (hc : zCn fr fb fp nb np c) (hk : zKo nb np c T) (h : zSr nb np T.1 N) (hp : 0 ≤ p.toInt ∧ p.toInt < np) (hb : 0 ≤ b.toInt ∧ b.toInt < nb) (hf : 0 ≤ f.toInt ∧ f.toInt ≤ 9) (hL : zLwR ho fC fV fK fT fS fU lw) (F0 : ∀ lw : Option ((Int → Int) × Int), zLwR ho fC fV fK fT fS fU lw → zB5 f (fb (4 * b.toInt.toNat + 2)) (N b.toInt.toNat) (fp (4 * p.toInt.toNat)) (N (6 + p.toInt.toNat)) (N 15) → r = zSh (fp (4 * p.toInt.toNat + 3)) (zLat (fun i => N (17 + i)) p (N 16).toInt.toNat) (zLkv lw f (fb (4 * b.toInt.toNat + 2)) (N b.toInt.toNat) (fp (4 * p.toInt.toNat)) (N (6 + p.toInt.toNat)) (N 15))) : r = sShow c T.1 lw p b f := by
  have h5 := zKo_b5 hk hp hb (f := f) (by unfold zB6; omega)
  rw [← hc.2.2 (4 * p.toInt.toNat) (by omega), ← hc.2.1 (4 * b.toInt.toNat + 2) (by omega), ← h.1 b.toInt.toNat (by omega), ← h.2.1 p.toInt.toNat (by omega), zSr_mo h] at h5
  unfold sShow
  rw [F0 lw hL h5, hc.2.2 (4 * p.toInt.toNat) (by omega), hc.2.2 (4 * p.toInt.toNat + 3) (by omega), hc.2.1 (4 * b.toInt.toNat + 2) (by omega), h.1 b.toInt.toNat (by omega), h.2.1 p.toInt.toNat (by omega), zSr_mo h, zSr_pn h, zLat_c (P := fun i => N (17 + i)) (zSr_P h)]
theorem zTr_u0 {nb np : Int} {T : zT} {N f rf : Nat → Int32} {ac : Int32} (h : zTr nb np T N f ac rf) (h0 : ac.toInt = 0) : (-1 : Int32).toInt = sV_und T ∧ zTr nb np (sT_und T) N f ac rf := by
  obtain ⟨h1, h2, h3⟩ := h
  have e : T.2.1 = [] := List.eq_nil_of_length_eq_zero (by have := h2.1; omega)
  unfold sV_und sT_und
  rw [e] at h2 ⊢
  exact ⟨by decide, h1, h2, h3⟩
theorem zTr_u1 {nb np : Int} {T : zT} {N N' f rf : Nat → Int32} {ac ac' k : Int32} (h : zTr nb np T N f ac rf) (hb : zTb5 nb np T) (e : zEq N' f (97 * ac'.toInt.toNat) k) (hk : 97 ≤ k.toInt) (h1 : 1 ≤ ac.toInt) (ha : ac'.toInt = ac.toInt - 1) : ac'.toInt = sV_und T ∧ zTr nb np (sT_und T) N' f ac' rf := by
  obtain ⟨S, Ks, q⟩ := T
  obtain ⟨a1, a2, a3⟩ := h
  have a2 : zKr nb np Ks f ac := a2
  have b1 : nb ≤ 6 := hb.1.2
  have b2 : np ≤ 5 := hb.2.1.2
  have b3 : ∀ K ∈ Ks, zSb nb np K := hb.2.2.2.2
  cases Ks with
  | nil =>
    have z := a2.1
    simp at z
    omega
  | cons K Ks =>
    have z := zKr_back a2 (N := N') (ac' := ac') (fun i hi => e i (by omega)) ha b1 b2 (b3 K List.mem_cons_self).2.2.2.2.1.2
    refine ⟨?_, z.1, z.2, a3⟩
    have y := a2.1
    rw [List.length_cons] at y
    show ac'.toInt = ((K :: Ks).length : Int) - 1
    rw [List.length_cons]
    omega
theorem zSr_c {nb np : Int} {S : zS} {N N' : Nat → Int32} {k : Int32} (h : zSr nb np S N) (h20 : (N 16).toInt ≤ 20) (e : zEq N' N 0 k) (hk : 97 ≤ k.toInt) (hb : nb ≤ 6) (hp : np ≤ 5) : zSr nb np S N' :=
  zSr_eq h (fun i hi => by have := e i (by omega); rw [Nat.zero_add] at this; exact this) hb hp h20
theorem zKr_0 {nb np : Int} {f : Nat → Int32} : zKr nb np [] f 0 := ⟨by decide, fun j K hj => by simp at hj⟩
