set_option maxHeartbeats 4000000 in
set_option maxRecDepth 100000 in
theorem law_step {p : Program} {l : Launch} {e : Env} {s : State} {m : MethodId} {below : List Frame} {meth : Method} {c : Code} {b L : Nat} {xs : Nat → Int32} {dC : Nat → ClassId} {dI : Nat → Nat → Nat} {cI cJ cQ : ClassId} {x0 m0 o0 : Nat} (hl0 : l.stackTraces = false) (C0 : lw_At p s m meth c b L xs) (hK3 : va_K (dC, dI) vwCl [(cI, .int), (cJ, .long), (cQ, .object "NinePortraits$Law")] s) (hV : zV (fun q : Nat => s.heap.size ≤ q) s) (hG : zG (fun q : Nat => s.heap.size ≤ q) s) (hCa : zCa s) (hL : L ≤ 3584) {sg : zSy} {C Rr : va_W} {fo : Nat → Int64} {i : Int32} {H : Heap} {locs : List Loc} {ls : Array Slot} {k n : Nat} (hO : zOkG sg) (hC : zCi cI cJ cQ x0 sg C) (hR : zRi cI m0 sg Rr) (hP : va_P (dC, dI) vwCl (C ++ ((o0, .inl (cJ, 1, .inr (.inl fo))) :: Rr)) H) (hD : va_D (fun q : Nat => s.heap.size ≤ q) (C ++ ((o0, .inl (cJ, 1, .inr (.inl fo))) :: Rr))) (hS : va_S (fun q : Nat => s.heap.size ≤ q) s.heap H locs) (hl : lv_has ls 7 [(0, .ref b), (1, .ref x0), (2, .ref m0), (3, .ref o0), (4, .int i)]) (hi0 : 0 ≤ i.toInt) (hi9 : i.toInt ≤ 100000) (hk : k + 3 ≤ 601024) (hn : n + 300 ≤ 7293034) (J : i.toInt + 7 ≤ (L : Int) → ∀ (sg : zSy) (C Rr : va_W) (fo : Nat → Int64) (H : Heap) (locs : List Loc) (ls : Array Slot), zOkG sg → zCi cI cJ cQ x0 sg C → zRi cI m0 sg Rr → va_P (dC, dI) vwCl (C ++ ((o0, .inl (cJ, 1, .inr (.inl fo))) :: Rr)) H → va_D (fun q : Nat => s.heap.size ≤ q) (C ++ ((o0, .inl (cJ, 1, .inr (.inl fo))) :: Rr)) → va_S (fun q : Nat => s.heap.size ≤ q) s.heap H locs → lv_has ls 7 [(0, .ref b), (1, .ref x0), (2, .ref m0), (3, .ref o0), (4, .int i)] → W p l e room_1 s m #[Value.ref b] below meth c H locs (k + 3) (n + 300) (lw_Z below #[Value.ref b] s) (F0 m 1825 ls [])) : W p l e room_1 s m #[Value.ref b] below meth c H locs k n (lw_Z below #[Value.ref b] s) (F0 m 23 ls []) := by
  obtain ⟨hx, hb, hr, hml, hown, hts0, hX, hbl, hlocks, hgv⟩ := id C0
  have hbA : ¬ (fun q : Nat => s.heap.size ≤ q) b := Nat.not_le.mpr hbl
  refine lv_iload hx hb dL_law_23 (lv_at hl 4 rfl) ?_
  refine lv_aload_n hx hb dL_law_25 rfl (lv_at hl 0 rfl) ?_
  refine va_slen hx hb hX hbl hbA hS dL_law_26 ?_
  refine lv_bipush (v := 7) hx hb dL_law_27 (by decide) ?_
  refine lv_isub hx hb dL_law_29 ?_
  refine lv_topi (fun v29 e29 => ?_)
  have i29 : v29.toInt = (L : Int) - 7 := zsub e29 (nI_toInt (by omega)) (by decide) (by omega) (by omega)
  refine lv_icmp_gt (tgt := 1831) hx hb dL_law_30 (by decide) (fun c30 => ?_) (fun c30 => ?_)
  · refine lv_iconst (v := 1) hx hb dL_law_1831 (by decide) ?_
    refine W.widen (k := 601024) (n := 7293034) (by omega) (by omega) ?_
    refine va_forget (fun q hq => hS.2.2 q hq) ?_
    exact lw_ret hx hb hr hlocks dL_law_1832
  · have c30 : i.toInt ≤ v29.toInt := z2 rfl rfl c30
    have hiL : i.toInt + 7 ≤ (L : Int) := by omega
    have J := J hiL
    refine lv_aload_n hx hb dL_law_33 rfl (lv_at hl 0 rfl) ?_
    refine lv_iload hx hb dL_law_34 (lv_at hl 4 rfl) ?_
    refine va_sld hx hb hX hbl hbA hS (vp_in_iff.mpr ⟨by omega, by omega⟩) dL_law_36 ?_
    refine lv_bipush (v := 63) hx hb dL_law_37 (by decide) ?_
    refine lv_iand hx hb dL_law_39 ?_
    refine lv_topi (fun z ez => ?_)
    obtain ⟨j, hj, hz⟩ := pk_andE (xs (i.toNatClampNeg)) (m := 63) 6 (by decide)
    obtain rfl : z = nI j := ez.trans hz
    clear ez hz
    rcases Nat.lt_or_ge j 48 with h48 | h48
    · match j, h48 with
      | 0, _ => exact lv_tableIn (off := 208) (tgt := 248) hx hb dL_law_40 (by decide) (by decide) (by decide) (by decide) (law_case_0 hl0 C0 hK3 hV hG hCa hL hO hC hR hP hD hS hl hi0 hiL hk hn J)
      | 1, _ => exact lv_tableIn (off := 281) (tgt := 321) hx hb dL_law_40 (by decide) (by decide) (by decide) (by decide) (law_case_1 hl0 C0 hK3 hV hG hCa hL hO hC hR hP hD hS hl hi0 hiL hk hn J)
      | 2, _ => exact lv_tableIn (off := 306) (tgt := 346) hx hb dL_law_40 (by decide) (by decide) (by decide) (by decide) (law_case_2 hl0 C0 hK3 hV hG hCa hL hO hC hR hP hD hS hl hi0 hiL hk hn J)
      | 3, _ => exact lv_tableIn (off := 331) (tgt := 371) hx hb dL_law_40 (by decide) (by decide) (by decide) (by decide) (law_case_3 hl0 C0 hK3 hV hG hCa hL hO hC hR hP hD hS hl hi0 hiL hk hn J)
      | 4, _ => exact lv_tableIn (off := 356) (tgt := 396) hx hb dL_law_40 (by decide) (by decide) (by decide) (by decide) (law_case_4 hl0 C0 hK3 hV hG hCa hL hO hC hR hP hD hS hl hi0 hiL hk hn J)
      | 5, _ => exact lv_tableIn (off := 381) (tgt := 421) hx hb dL_law_40 (by decide) (by decide) (by decide) (by decide) (law_case_5 hl0 C0 hK3 hV hG hCa hL hO hC hR hP hD hS hl hi0 hiL hk hn J)
      | 6, _ => exact lv_tableIn (off := 449) (tgt := 489) hx hb dL_law_40 (by decide) (by decide) (by decide) (by decide) (law_case_6 hl0 C0 hK3 hV hG hCa hL hO hC hR hP hD hS hl hi0 hiL hk hn J)
      | 7, _ => exact lv_tableIn (off := 486) (tgt := 526) hx hb dL_law_40 (by decide) (by decide) (by decide) (by decide) (law_case_7 hl0 C0 hK3 hV hG hCa hL hO hC hR hP hD hS hl hi0 hiL hk hn J)
      | 8, _ => exact lv_tableIn (off := 511) (tgt := 551) hx hb dL_law_40 (by decide) (by decide) (by decide) (by decide) (law_case_8 hl0 C0 hK3 hV hG hCa hL hO hC hR hP hD hS hl hi0 hiL hk hn J)
      | 9, _ => exact lv_tableIn (off := 548) (tgt := 588) hx hb dL_law_40 (by decide) (by decide) (by decide) (by decide) (law_case_9 hl0 C0 hK3 hV hG hCa hL hO hC hR hP hD hS hl hi0 hiL hk hn J)
      | 10, _ => exact lv_tableIn (off := 597) (tgt := 637) hx hb dL_law_40 (by decide) (by decide) (by decide) (by decide) (law_case_10 hl0 C0 hK3 hV hG hCa hL hO hC hR hP hD hS hl hi0 hiL hk hn J)
      | 11, _ => exact lv_tableIn (off := 634) (tgt := 674) hx hb dL_law_40 (by decide) (by decide) (by decide) (by decide) (law_case_11 hl0 C0 hK3 hV hG hCa hL hO hC hR hP hD hS hl hi0 hiL hk hn J)
      | 12, _ => exact lv_tableIn (off := 671) (tgt := 711) hx hb dL_law_40 (by decide) (by decide) (by decide) (by decide) (law_case_12 hl0 C0 hK3 hV hG hCa hL hO hC hR hP hD hS hl hi0 hiL hk hn J)
      | 13, _ => exact lv_tableIn (off := 696) (tgt := 736) hx hb dL_law_40 (by decide) (by decide) (by decide) (by decide) (law_case_13 hl0 C0 hK3 hV hG hCa hL hO hC hR hP hD hS hl hi0 hiL hk hn J)
      | 14, _ => exact lv_tableIn (off := 721) (tgt := 761) hx hb dL_law_40 (by decide) (by decide) (by decide) (by decide) (law_case_14 hl0 C0 hK3 hV hG hCa hL hO hC hR hP hD hS hl hi0 hiL hk hn J)
      | 15, _ => exact lv_tableIn (off := 746) (tgt := 786) hx hb dL_law_40 (by decide) (by decide) (by decide) (by decide) (law_case_15 hl0 C0 hK3 hV hG hCa hL hO hC hR hP hD hS hl hi0 hiL hk hn J)
      | 16, _ => exact lv_tableIn (off := 771) (tgt := 811) hx hb dL_law_40 (by decide) (by decide) (by decide) (by decide) (law_case_16 hl0 C0 hK3 hV hG hCa hL hO hC hR hP hD hS hl hi0 hiL hk hn J)
      | 17, _ => exact lv_tableIn (off := 784) (tgt := 824) hx hb dL_law_40 (by decide) (by decide) (by decide) (by decide) (law_case_17 hl0 C0 hK3 hV hG hCa hL hO hC hR hP hD hS hl hi0 hiL hk hn J)
      | 18, _ => exact lv_tableIn (off := 809) (tgt := 849) hx hb dL_law_40 (by decide) (by decide) (by decide) (by decide) (law_case_18 hl0 C0 hK3 hV hG hCa hL hO hC hR hP hD hS hl hi0 hiL hk hn J)
      | 19, _ => exact lv_tableIn (off := 834) (tgt := 874) hx hb dL_law_40 (by decide) (by decide) (by decide) (by decide) (law_case_19 hl0 C0 hK3 hV hG hCa hL hO hC hR hP hD hS hl hi0 hiL hk hn J)
      | 20, _ => exact lv_tableIn (off := 903) (tgt := 943) hx hb dL_law_40 (by decide) (by decide) (by decide) (by decide) (law_case_20 hl0 C0 hK3 hV hG hCa hL hO hC hR hP hD hS hl hi0 hiL hk hn J)
      | 21, _ => exact lv_tableIn (off := 928) (tgt := 968) hx hb dL_law_40 (by decide) (by decide) (by decide) (by decide) (law_case_21 hl0 C0 hK3 hV hG hCa hL hO hC hR hP hD hS hl hi0 hiL hk hn J)
      | 22, _ => exact lv_tableIn (off := 941) (tgt := 981) hx hb dL_law_40 (by decide) (by decide) (by decide) (by decide) (law_case_22 hl0 C0 hK3 hV hG hCa hL hO hC hR hP hD hS hl hi0 hiL hk hn J)
      | 23, _ => exact lv_tableIn (off := 978) (tgt := 1018) hx hb dL_law_40 (by decide) (by decide) (by decide) (by decide) (law_case_23 hl0 C0 hK3 hV hG hCa hL hO hC hR hP hD hS hl hi0 hiL hk hn J)
      | 24, _ => exact lv_tableIn (off := 1003) (tgt := 1043) hx hb dL_law_40 (by decide) (by decide) (by decide) (by decide) (law_case_24 hl0 C0 hK3 hV hG hCa hL hO hC hR hP hD hS hl hi0 hiL hk hn J)
      | 25, _ => exact lv_tableIn (off := 1040) (tgt := 1080) hx hb dL_law_40 (by decide) (by decide) (by decide) (by decide) (law_case_25 hl0 C0 hK3 hV hG hCa hL hO hC hR hP hD hS hl hi0 hiL hk hn J)
      | 26, _ => exact lv_tableIn (off := 1077) (tgt := 1117) hx hb dL_law_40 (by decide) (by decide) (by decide) (by decide) (law_case_26 hl0 C0 hK3 hV hG hCa hL hO hC hR hP hD hS hl hi0 hiL hk hn J)
      | 27, _ => exact lv_tableIn (off := 1114) (tgt := 1154) hx hb dL_law_40 (by decide) (by decide) (by decide) (by decide) (law_case_27 hl0 C0 hK3 hV hG hCa hL hO hC hR hP hD hS hl hi0 hiL hk hn J)
      | 28, _ => exact lv_tableIn (off := 1139) (tgt := 1179) hx hb dL_law_40 (by decide) (by decide) (by decide) (by decide) (law_case_28 hl0 C0 hK3 hV hG hCa hL hO hC hR hP hD hS hl hi0 hiL hk hn J)
      | 29, _ => exact lv_tableIn (off := 1164) (tgt := 1204) hx hb dL_law_40 (by decide) (by decide) (by decide) (by decide) (law_case_29 hl0 C0 hK3 hV hG hCa hL hO hC hR hP hD hS hl hi0 hiL hk hn J)
      | 30, _ => exact lv_tableIn (off := 1201) (tgt := 1241) hx hb dL_law_40 (by decide) (by decide) (by decide) (by decide) (law_case_30 hl0 C0 hK3 hV hG hCa hL hO hC hR hP hD hS hl hi0 hiL hk hn J)
      | 31, _ => exact lv_tableIn (off := 1226) (tgt := 1266) hx hb dL_law_40 (by decide) (by decide) (by decide) (by decide) (law_case_31 hl0 C0 hK3 hV hG hCa hL hO hC hR hP hD hS hl hi0 hiL hk hn J)
      | 32, _ => exact lv_tableIn (off := 1313) (tgt := 1353) hx hb dL_law_40 (by decide) (by decide) (by decide) (by decide) (law_case_32 hl0 C0 hK3 hV hG hCa hL hO hC hR hP hD hS hl hi0 hiL hk hn J)
      | 33, _ => exact lv_tableIn (off := 1374) (tgt := 1414) hx hb dL_law_40 (by decide) (by decide) (by decide) (by decide) (law_case_33 hl0 C0 hK3 hV hG hCa hL hO hC hR hP hD hS hl hi0 hiL hk hn J)
      | 34, _ => exact lv_tableIn (off := 1411) (tgt := 1451) hx hb dL_law_40 (by decide) (by decide) (by decide) (by decide) (law_case_34 hl0 C0 hK3 hV hG hCa hL hO hC hR hP hD hS hl hi0 hiL hk hn J)
      | 35, _ => exact lv_tableIn (off := 1448) (tgt := 1488) hx hb dL_law_40 (by decide) (by decide) (by decide) (by decide) (law_case_35 hl0 C0 hK3 hV hG hCa hL hO hC hR hP hD hS hl hi0 hiL hk hn J)
      | 36, _ => exact lv_tableIn (off := 1473) (tgt := 1513) hx hb dL_law_40 (by decide) (by decide) (by decide) (by decide) (law_case_36 hl0 C0 hK3 hV hG hCa hL hO hC hR hP hD hS hl hi0 hiL hk hn J)
      | 37, _ => exact lv_tableIn (off := 1510) (tgt := 1550) hx hb dL_law_40 (by decide) (by decide) (by decide) (by decide) (law_case_37 hl0 C0 hK3 hV hG hCa hL hO hC hR hP hD hS hl hi0 hiL hk hn J)
      | 38, _ => exact lv_tableIn (off := 1559) (tgt := 1599) hx hb dL_law_40 (by decide) (by decide) (by decide) (by decide) (law_case_38 hl0 C0 hK3 hV hG hCa hL hO hC hR hP hD hS hl hi0 hiL hk hn J)
      | 39, _ => exact lv_tableIn (off := 1584) (tgt := 1624) hx hb dL_law_40 (by decide) (by decide) (by decide) (by decide) (law_case_39 hl0 C0 hK3 hV hG hCa hL hO hC hR hP hD hS hl hi0 hiL hk hn J)
      | 40, _ => exact lv_tableIn (off := 1609) (tgt := 1649) hx hb dL_law_40 (by decide) (by decide) (by decide) (by decide) (law_case_40 hl0 C0 hK3 hV hG hCa hL hO hC hR hP hD hS hl hi0 hiL hk hn J)
      | 41, _ => exact lv_tableIn (off := 1634) (tgt := 1674) hx hb dL_law_40 (by decide) (by decide) (by decide) (by decide) (law_case_41 hl0 C0 hK3 hV hG hCa hL hO hC hR hP hD hS hl hi0 hiL hk hn J)
      | 42, _ => exact lv_tableIn (off := 1659) (tgt := 1699) hx hb dL_law_40 (by decide) (by decide) (by decide) (by decide) (law_case_42 hl0 C0 hK3 hV hG hCa hL hO hC hR hP hD hS hl hi0 hiL hk hn J)
      | 43, _ => exact lv_tableIn (off := 1684) (tgt := 1724) hx hb dL_law_40 (by decide) (by decide) (by decide) (by decide) (law_case_43 hl0 C0 hK3 hV hG hCa hL hO hC hR hP hD hS hl hi0 hiL hk hn J)
      | 44, _ => exact lv_tableIn (off := 1709) (tgt := 1749) hx hb dL_law_40 (by decide) (by decide) (by decide) (by decide) (law_case_44 hl0 C0 hK3 hV hG hCa hL hO hC hR hP hD hS hl hi0 hiL hk hn J)
      | 45, _ => exact lv_tableIn (off := 1734) (tgt := 1774) hx hb dL_law_40 (by decide) (by decide) (by decide) (by decide) (law_case_45 hl0 C0 hK3 hV hG hCa hL hO hC hR hP hD hS hl hi0 hiL hk hn J)
      | 46, _ => exact lv_tableIn (off := 1747) (tgt := 1787) hx hb dL_law_40 (by decide) (by decide) (by decide) (by decide) (law_case_46 hl0 C0 hK3 hV hG hCa hL hO hC hR hP hD hS hl hi0 hiL hk hn J)
      | 47, _ => exact lv_tableIn (off := 1760) (tgt := 1800) hx hb dL_law_40 (by decide) (by decide) (by decide) (by decide) (law_case_47 hl0 C0 hK3 hV hG hCa hL hO hC hR hP hD hS hl hi0 hiL hk hn J)
      | k + 48, h => exact absurd h (by omega)
    · refine lv_tableOut (tgt := 1825) hx hb dL_law_40 (Or.inr (by rw [nI_toInt (by omega)]; omega)) (by decide) ?_
      refine W.widen (k := k + 3) (n := n + 300) (by omega) (by omega) ?_
      exact J sg C Rr fo H locs ls hO hC hR hP hD hS hl
set_option maxHeartbeats 4000000 in
set_option maxRecDepth 100000 in
theorem law_loop {p : Program} {l : Launch} {e : Env} {s : State} {m : MethodId} {below : List Frame} {meth : Method} {c : Code} {b L : Nat} {xs : Nat → Int32} {dC : Nat → ClassId} {dI : Nat → Nat → Nat} {cI cJ cQ : ClassId} {x0 m0 o0 : Nat} (hl0 : l.stackTraces = false) (C0 : lw_At p s m meth c b L xs) (hK3 : va_K (dC, dI) vwCl [(cI, .int), (cJ, .long), (cQ, .object "NinePortraits$Law")] s) (hV : zV (fun q : Nat => s.heap.size ≤ q) s) (hG : zG (fun q : Nat => s.heap.size ≤ q) s) (hCa : zCa s) (hL : L ≤ 3584) : ∀ (N t : Nat) (sg : zSy) (C Rr : va_W) (fo : Nat → Int64) (i : Int32) (H : Heap) (locs : List Loc) (ls : Array Slot), t + N = 600 → i.toInt = 7 * (t : Int) → zOkG sg → zCi cI cJ cQ x0 sg C → zRi cI m0 sg Rr → va_P (dC, dI) vwCl (C ++ ((o0, .inl (cJ, 1, .inr (.inl fo))) :: Rr)) H → va_D (fun q : Nat => s.heap.size ≤ q) (C ++ ((o0, .inl (cJ, 1, .inr (.inl fo))) :: Rr)) → va_S (fun q : Nat => s.heap.size ≤ q) s.heap H locs → lv_has ls 7 [(0, .ref b), (1, .ref x0), (2, .ref m0), (3, .ref o0), (4, .int i)] → W p l e room_1 s m #[Value.ref b] below meth c H locs (62 + 3 * t) (13545 + 300 * t) (lw_Z below #[Value.ref b] s) (F0 m 23 ls []) := by
  intro N
  induction N with
  | zero =>
    intro t sg C Rr fo i H locs ls hN hi hO hC hR hP hD hS hl
    exact law_step hl0 C0 hK3 hV hG hCa hL hO hC hR hP hD hS hl (by omega) (by omega) (by omega) (by omega) (fun q => absurd q (by omega))
  | succ N ih =>
    intro t sg C Rr fo i H locs ls hN hi hO hC hR hP hD hS hl
    refine law_step hl0 C0 hK3 hV hG hCa hL hO hC hR hP hD hS hl (by omega) (by omega) (by omega) (by omega) (fun q => ?_)
    intro sg C Rr fo H locs ls hO hC hR hP hD hS hl
    obtain ⟨hx, hb, hr, hml, hown, hts0, hX, hbl, hlocks, hgv⟩ := id C0
    obtain ⟨v, ev⟩ : ∃ y : Int32, y = i + Int32.ofInt (7) := ⟨_, rfl⟩
    refine lv_iinc (v := v) (lv' := [(4, .int v), (0, .ref b), (1, .ref x0), (2, .ref m0), (3, .ref o0)]) hx hb dL_law_1825 hl (k := 4) rfl ev.symm (by decide) rfl (fun ls hl => ?_)
    have iv : v.toInt = i.toInt + 7 := zaddI ev (by decide) (by omega) (by omega)
    refine lv_goto (tgt := 23) hx hb dL_law_1828 (by decide) ?_
    refine W.widen (k := 62 + 3 * (t + 1)) (n := 13545 + 300 * (t + 1)) (by omega) (by omega) ?_
    exact ih (t + 1) sg C Rr fo v H locs ls (by omega) (by omega) hO hC hR hP hD hS (lv_sub hl [1, 2, 3, 4, 0] rfl)
