set_option maxHeartbeats 4000000 in
set_option maxRecDepth 100000 in
theorem law_case_32 {p : Program} {l : Launch} {e : Env} {s : State} {m : MethodId} {below : List Frame} {meth : Method} {c : Code} {b : Nat} {xs : Nat → Int32} {dC : Nat → ClassId} {dI : Nat → Nat → Nat} {cI cJ : ClassId} {xh0 mh0 o0 xq1 xq4 xq6 xq9 xq14 xq19 xq20 xq25 xq30 xq33 xq39 xq45 xq47 xq16 xq17 xq18 mq1 mq2 mq3 mq4 mq5 mq6 mq7 mq8 mq9 mq10 mq11 mq12 mq13 mq14 mq15 mq16 mq17 mq18 mq19 mq20 mq21 mq22 mq23 g0 : Nat} (hl0 : l.stackTraces = false) (C0 : lw_At p s m meth c b 7 xs) (hK : va_K (dC, dI) vwCl [(cI, .int), (cJ, .long)] s) (hF : zF g0 (fun q : Nat => s.heap.size ≤ q) s) (hG : zG (fun q : Nat => s.heap.size ≤ q) s) {H : Heap} {locs : List Loc} (hP : va_P (dC, dI) vwCl [(xh0, .inr (10, [.ref xq1, .ref xq4, .ref xq6, .ref xq9, .ref xq14, .ref xq19, .ref xq20, .ref xq25, .ref xq30, .ref xq33, .ref xq39, .ref xq45, .ref xq47, .int 0, .int (-1), .int 0, .int 0])), (xq14, .inr (1, [.ref xq16, .ref xq17, .ref xq18, .int 0, .int 0])), (mh0, .inr (11, [.int 0, .ref mq1, .int 0, .int 0, .int 0, .int 0, .ref mq2, .ref mq3, .ref mq4, .ref mq5, .ref mq6, .ref mq7, .ref mq8, .int 0, .int 0, .ref mq9, .ref mq10, .ref mq11, .ref mq12, .ref mq13, .int 0, .int 0, .ref mq14, .ref mq15, .ref mq16, .int 0, .int 0, .ref mq17, .ref mq18, .int (-1), .int 0, .ref mq19, .int 0, .long 0, .ref mq20, .int 0, .int 0, .ref mq21, .ref mq22, .ref mq23, .int 0]))] H) (hD : va_D (fun q : Nat => s.heap.size ≤ q) [(xh0, .inr (10, [.ref xq1, .ref xq4, .ref xq6, .ref xq9, .ref xq14, .ref xq19, .ref xq20, .ref xq25, .ref xq30, .ref xq33, .ref xq39, .ref xq45, .ref xq47, .int 0, .int (-1), .int 0, .int 0])), (xq14, .inr (1, [.ref xq16, .ref xq17, .ref xq18, .int 0, .int 0])), (mh0, .inr (11, [.int 0, .ref mq1, .int 0, .int 0, .int 0, .int 0, .ref mq2, .ref mq3, .ref mq4, .ref mq5, .ref mq6, .ref mq7, .ref mq8, .int 0, .int 0, .ref mq9, .ref mq10, .ref mq11, .ref mq12, .ref mq13, .int 0, .int 0, .ref mq14, .ref mq15, .ref mq16, .int 0, .int 0, .ref mq17, .ref mq18, .int (-1), .int 0, .ref mq19, .int 0, .long 0, .ref mq20, .int 0, .int 0, .ref mq21, .ref mq22, .ref mq23, .int 0]))]) (hS : va_S (fun q : Nat => s.heap.size ≤ q) s.heap H locs) {ls : Array Slot} (hl : lv_has ls 7 [(0, .ref b), (1, .ref xh0), (2, .ref mh0), (3, .ref o0), (4, .int 0)]) : W p l e room_1 s m #[Value.ref b] below meth c H locs 62 13545 (lw_Z below #[Value.ref b] s) (F0 m 1353 ls []) := by
  obtain ⟨hx, hb, hr, hml, hown, hts0, hX, hbl, hlocks, hgv⟩ := id C0
  have hts : ∀ w ∈ wA, w.before #[Value.ref b] s = true := fun w h => hts0 w (List.mem_filter.mp h).1
  have hown : s.vm.findClass RL = some m.cls := hown
  have hA : ∀ q : Nat, s.heap.size ≤ q → (fun q : Nat => s.heap.size ≤ q) q := fun _ h => h
  have hbA : ¬ (fun q : Nat => s.heap.size ≤ q) b := Nat.not_le.mpr hbl
  refine lv_aload_n hx hb dL_law_1353 rfl (lv_at hl 1 rfl) ?_
  refine lv_aload_n hx hb dL_law_1354 rfl (lv_at hl 0 rfl) ?_
  refine lv_iload hx hb dL_law_1355 (lv_at hl 4 rfl) ?_
  refine lv_iconst (v := 1) hx hb dL_law_1357 (by decide) ?_
  refine lv_iadd hx hb dL_law_1358 ?_
  refine lv_topi (fun v_1 ev_1 => ?_)
  obtain rfl : v_1 = 1 := ev_1.trans (by decide)
  refine va_sld hx hb hX hbl hbA hS (by unfold vp_in; decide) dL_law_1359 ?_
  refine lv_topi (fun v_2 ev_2 => ?_)
  obtain rfl : v_2 = xs 1 := ev_2
  refine lv_aload_n hx hb dL_law_1360 rfl (lv_at hl 0 rfl) ?_
  refine lv_iload hx hb dL_law_1361 (lv_at hl 4 rfl) ?_
  refine lv_iconst (v := 2) hx hb dL_law_1363 (by decide) ?_
  refine lv_iadd hx hb dL_law_1364 ?_
  refine lv_topi (fun v_3 ev_3 => ?_)
  obtain rfl : v_3 = 2 := ev_3.trans (by decide)
  refine va_sld hx hb hX hbl hbA hS (by unfold vp_in; decide) dL_law_1365 ?_
  refine lv_topi (fun v_4 ev_4 => ?_)
  obtain rfl : v_4 = xs 2 := ev_4
  refine lv_aload_n hx hb dL_law_1366 rfl (lv_at hl 0 rfl) ?_
  refine lv_iload hx hb dL_law_1367 (lv_at hl 4 rfl) ?_
  refine lv_iconst (v := 3) hx hb dL_law_1369 (by decide) ?_
  refine lv_iadd hx hb dL_law_1370 ?_
  refine lv_topi (fun v_5 ev_5 => ?_)
  obtain rfl : v_5 = 3 := ev_5.trans (by decide)
  refine va_sld hx hb hX hbl hbA hS (by unfold vp_in; decide) dL_law_1371 ?_
  refine lv_topi (fun v_6 ev_6 => ?_)
  obtain rfl : v_6 = xs 3 := ev_6
  refine lv_aload_n hx hb dL_law_1372 rfl (lv_at hl 0 rfl) ?_
  refine lv_iload hx hb dL_law_1373 (lv_at hl 4 rfl) ?_
  refine lv_iconst (v := 4) hx hb dL_law_1375 (by decide) ?_
  refine lv_iadd hx hb dL_law_1376 ?_
  refine lv_topi (fun v_7 ev_7 => ?_)
  obtain rfl : v_7 = 4 := ev_7.trans (by decide)
  refine va_sld hx hb hX hbl hbA hS (by unfold vp_in; decide) dL_law_1377 ?_
  refine lv_topi (fun v_8 ev_8 => ?_)
  obtain rfl : v_8 = xs 4 := ev_8
  have hPc := hP.sub (ws' := [(xh0, .inr (10, [.ref xq1, .ref xq4, .ref xq6, .ref xq9, .ref xq14, .ref xq19, .ref xq20, .ref xq25, .ref xq30, .ref xq33, .ref xq39, .ref xq45, .ref xq47, .int 0, .int (-1), .int 0, .int 0])), (xq14, .inr (1, [.ref xq16, .ref xq17, .ref xq18, .int 0, .int 0]))]) [0, 1] rfl
  have hDc := hD.sub (ws' := [(xh0, .inr (10, [.ref xq1, .ref xq4, .ref xq6, .ref xq9, .ref xq14, .ref xq19, .ref xq20, .ref xq25, .ref xq30, .ref xq33, .ref xq39, .ref xq45, .ref xq47, .int 0, .int (-1), .int 0, .int 0])), (xq14, .inr (1, [.ref xq16, .ref xq17, .ref xq18, .int 0, .int 0]))]) [0, 1] (by decide) rfl
  have hFc := zfr hS hA
  refine va_calli (va_runV (As := [.int (xs 1), .int (xs 2), .int (xs 3), .int (xs 4)]) (rest := []) ⟨hx, hb, hml, hown, hts⟩ (c_X10_rests l dC dI cI cJ xh0 xq1 xq4 xq6 xq9 xq14 xq19 xq20 xq25 xq30 xq33 xq39 xq45 xq47 xq16 xq17 xq18 H.size (xs 1) (xs 2) (xs 3) (xs 4)) (cwV 4 hts (zgV qw940 qw941 qw942 qw98 qw943) rfl rfl rfl hd_X10_rests ⟨Nat.le_of_ble_eq_true rfl, Nat.le_of_ble_eq_true rfl⟩) (zPV hPc hK hDc (va_recv hK hP (ci := 10) (q0 := 0) rfl rfl)) rfl rfl hl.1 rfl (lv_room (Nat.le_of_ble_eq_true rfl)) dL_law_1378 ⟨Nat.le_of_ble_eq_true rfl, Nat.le_of_ble_eq_true rfl⟩) hS (fun q _ h => hFc q h) hFc (fun r_9 u t H locs ht hvm hw hB hz1 hk1 hS => ?_)
  have hP := zkeep hP hk1
  have hw : r_9 = (-1) := hw
  subst hw
  refine lv_aload_n hx hb dL_law_1381 rfl (lv_at hl 2 rfl) ?_
  refine lv_aload_n hx hb dL_law_1382 rfl (lv_at hl 0 rfl) ?_
  refine lv_iload hx hb dL_law_1383 (lv_at hl 4 rfl) ?_
  refine lv_iconst (v := 1) hx hb dL_law_1385 (by decide) ?_
  refine lv_iadd hx hb dL_law_1386 ?_
  refine lv_topi (fun v_10 ev_10 => ?_)
  obtain rfl : v_10 = 1 := ev_10.trans (by decide)
  refine va_sld hx hb hX hbl hbA hS (by unfold vp_in; decide) dL_law_1387 ?_
  refine lv_topi (fun v_11 ev_11 => ?_)
  obtain rfl : v_11 = xs 1 := ev_11
  refine lv_aload_n hx hb dL_law_1388 rfl (lv_at hl 0 rfl) ?_
  refine lv_iload hx hb dL_law_1389 (lv_at hl 4 rfl) ?_
  refine lv_iconst (v := 2) hx hb dL_law_1391 (by decide) ?_
  refine lv_iadd hx hb dL_law_1392 ?_
  refine lv_topi (fun v_12 ev_12 => ?_)
  obtain rfl : v_12 = 2 := ev_12.trans (by decide)
  refine va_sld hx hb hX hbl hbA hS (by unfold vp_in; decide) dL_law_1393 ?_
  refine lv_topi (fun v_13 ev_13 => ?_)
  obtain rfl : v_13 = xs 2 := ev_13
  refine lv_aload_n hx hb dL_law_1394 rfl (lv_at hl 0 rfl) ?_
  refine lv_iload hx hb dL_law_1395 (lv_at hl 4 rfl) ?_
  refine lv_iconst (v := 3) hx hb dL_law_1397 (by decide) ?_
  refine lv_iadd hx hb dL_law_1398 ?_
  refine lv_topi (fun v_14 ev_14 => ?_)
  obtain rfl : v_14 = 3 := ev_14.trans (by decide)
  refine va_sld hx hb hX hbl hbA hS (by unfold vp_in; decide) dL_law_1399 ?_
  refine lv_topi (fun v_15 ev_15 => ?_)
  obtain rfl : v_15 = xs 3 := ev_15
  refine lv_aload_n hx hb dL_law_1400 rfl (lv_at hl 0 rfl) ?_
  refine lv_iload hx hb dL_law_1401 (lv_at hl 4 rfl) ?_
  refine lv_iconst (v := 4) hx hb dL_law_1403 (by decide) ?_
  refine lv_iadd hx hb dL_law_1404 ?_
  refine lv_topi (fun v_16 ev_16 => ?_)
  obtain rfl : v_16 = 4 := ev_16.trans (by decide)
  refine va_sld hx hb hX hbl hbA hS (by unfold vp_in; decide) dL_law_1405 ?_
  refine lv_topi (fun v_17 ev_17 => ?_)
  obtain rfl : v_17 = xs 4 := ev_17
  have hPc := hP.sub (ws' := [(mh0, .inr (11, [.int 0, .ref mq1, .int 0, .int 0, .int 0, .int 0, .ref mq2, .ref mq3, .ref mq4, .ref mq5, .ref mq6, .ref mq7, .ref mq8, .int 0, .int 0, .ref mq9, .ref mq10, .ref mq11, .ref mq12, .ref mq13, .int 0, .int 0, .ref mq14, .ref mq15, .ref mq16, .int 0, .int 0, .ref mq17, .ref mq18, .int (-1), .int 0, .ref mq19, .int 0, .long 0, .ref mq20, .int 0, .int 0, .ref mq21, .ref mq22, .ref mq23, .int 0]))]) [2] rfl
  have hDc := hD.sub (ws' := [(mh0, .inr (11, [.int 0, .ref mq1, .int 0, .int 0, .int 0, .int 0, .ref mq2, .ref mq3, .ref mq4, .ref mq5, .ref mq6, .ref mq7, .ref mq8, .int 0, .int 0, .ref mq9, .ref mq10, .ref mq11, .ref mq12, .ref mq13, .int 0, .int 0, .ref mq14, .ref mq15, .ref mq16, .int 0, .int 0, .ref mq17, .ref mq18, .int (-1), .int 0, .ref mq19, .int 0, .long 0, .ref mq20, .int 0, .int 0, .ref mq21, .ref mq22, .ref mq23, .int 0]))]) [2] (by decide) rfl
  have hFc := zfr hS hA
  refine va_calli (va_runV (As := [.int (xs 1), .int (xs 2), .int (xs 3), .int (xs 4)]) (rest := [.int (-1)]) ⟨hx, hb, hml, hown, hts⟩ (c_X11_rests l dC dI cI cJ mh0 mq1 mq2 mq3 mq4 mq5 mq6 mq7 mq8 mq9 mq10 mq11 mq12 mq13 mq14 mq15 mq16 mq17 mq18 mq19 mq20 mq21 mq22 mq23 H.size (xs 1) (xs 2) (xs 3) (xs 4)) (cwV 4 hts (zgV qw1671 qw1672 qw1673 qw108 qw1674) rfl rfl rfl hd_X11_rests ⟨Nat.le_of_ble_eq_true rfl, Nat.le_of_ble_eq_true rfl⟩) (zPV hPc hK hDc (va_recv hK hP (ci := 11) (q0 := 2) rfl rfl)) rfl rfl hl.1 rfl (lv_room (Nat.le_of_ble_eq_true rfl)) dL_law_1406 ⟨Nat.le_of_ble_eq_true rfl, Nat.le_of_ble_eq_true rfl⟩) hS (fun q _ h => hFc q h) hFc (fun r_18 u t H locs ht hvm hw hB hz1 hk1 hS => ?_)
  have hP := zkeep hP hk1
  have hw : r_18 = (-1) := hw
  subst hw
  refine lv_icmp_eq (tgt := 1825) hx hb dL_law_1409 (by decide) (fun _ => ?_) (fun c => absurd (by decide) c)
  exact law_end C0 hS (lv_sub hl [0, 4] rfl)
set_option maxHeartbeats 4000000 in
set_option maxRecDepth 100000 in
theorem law_case_33 {p : Program} {l : Launch} {e : Env} {s : State} {m : MethodId} {below : List Frame} {meth : Method} {c : Code} {b : Nat} {xs : Nat → Int32} {dC : Nat → ClassId} {dI : Nat → Nat → Nat} {cI cJ : ClassId} {xh0 mh0 o0 xq1 xq4 xq6 xq9 xq14 xq19 xq20 xq25 xq30 xq33 xq39 xq45 xq47 xq16 xq17 xq18 mq1 mq2 mq3 mq4 mq5 mq6 mq7 mq8 mq9 mq10 mq11 mq12 mq13 mq14 mq15 mq16 mq17 mq18 mq19 mq20 mq21 mq22 mq23 g0 : Nat} (hl0 : l.stackTraces = false) (C0 : lw_At p s m meth c b 7 xs) (hK : va_K (dC, dI) vwCl [(cI, .int), (cJ, .long)] s) (hF : zF g0 (fun q : Nat => s.heap.size ≤ q) s) (hG : zG (fun q : Nat => s.heap.size ≤ q) s) {H : Heap} {locs : List Loc} (hP : va_P (dC, dI) vwCl [(xh0, .inr (10, [.ref xq1, .ref xq4, .ref xq6, .ref xq9, .ref xq14, .ref xq19, .ref xq20, .ref xq25, .ref xq30, .ref xq33, .ref xq39, .ref xq45, .ref xq47, .int 0, .int (-1), .int 0, .int 0])), (xq14, .inr (1, [.ref xq16, .ref xq17, .ref xq18, .int 0, .int 0])), (mh0, .inr (11, [.int 0, .ref mq1, .int 0, .int 0, .int 0, .int 0, .ref mq2, .ref mq3, .ref mq4, .ref mq5, .ref mq6, .ref mq7, .ref mq8, .int 0, .int 0, .ref mq9, .ref mq10, .ref mq11, .ref mq12, .ref mq13, .int 0, .int 0, .ref mq14, .ref mq15, .ref mq16, .int 0, .int 0, .ref mq17, .ref mq18, .int (-1), .int 0, .ref mq19, .int 0, .long 0, .ref mq20, .int 0, .int 0, .ref mq21, .ref mq22, .ref mq23, .int 0]))] H) (hD : va_D (fun q : Nat => s.heap.size ≤ q) [(xh0, .inr (10, [.ref xq1, .ref xq4, .ref xq6, .ref xq9, .ref xq14, .ref xq19, .ref xq20, .ref xq25, .ref xq30, .ref xq33, .ref xq39, .ref xq45, .ref xq47, .int 0, .int (-1), .int 0, .int 0])), (xq14, .inr (1, [.ref xq16, .ref xq17, .ref xq18, .int 0, .int 0])), (mh0, .inr (11, [.int 0, .ref mq1, .int 0, .int 0, .int 0, .int 0, .ref mq2, .ref mq3, .ref mq4, .ref mq5, .ref mq6, .ref mq7, .ref mq8, .int 0, .int 0, .ref mq9, .ref mq10, .ref mq11, .ref mq12, .ref mq13, .int 0, .int 0, .ref mq14, .ref mq15, .ref mq16, .int 0, .int 0, .ref mq17, .ref mq18, .int (-1), .int 0, .ref mq19, .int 0, .long 0, .ref mq20, .int 0, .int 0, .ref mq21, .ref mq22, .ref mq23, .int 0]))]) (hS : va_S (fun q : Nat => s.heap.size ≤ q) s.heap H locs) {ls : Array Slot} (hl : lv_has ls 7 [(0, .ref b), (1, .ref xh0), (2, .ref mh0), (3, .ref o0), (4, .int 0)]) : W p l e room_1 s m #[Value.ref b] below meth c H locs 62 13545 (lw_Z below #[Value.ref b] s) (F0 m 1414 ls []) := by
  obtain ⟨hx, hb, hr, hml, hown, hts0, hX, hbl, hlocks, hgv⟩ := id C0
  have hts : ∀ w ∈ wA, w.before #[Value.ref b] s = true := fun w h => hts0 w (List.mem_filter.mp h).1
  have hown : s.vm.findClass RL = some m.cls := hown
  have hA : ∀ q : Nat, s.heap.size ≤ q → (fun q : Nat => s.heap.size ≤ q) q := fun _ h => h
  have hbA : ¬ (fun q : Nat => s.heap.size ≤ q) b := Nat.not_le.mpr hbl
  refine lv_aload_n hx hb dL_law_1414 rfl (lv_at hl 1 rfl) ?_
  refine lv_aload_n hx hb dL_law_1415 rfl (lv_at hl 0 rfl) ?_
  refine lv_iload hx hb dL_law_1416 (lv_at hl 4 rfl) ?_
  refine lv_iconst (v := 1) hx hb dL_law_1418 (by decide) ?_
  refine lv_iadd hx hb dL_law_1419 ?_
  refine lv_topi (fun v_1 ev_1 => ?_)
  obtain rfl : v_1 = 1 := ev_1.trans (by decide)
  refine va_sld hx hb hX hbl hbA hS (by unfold vp_in; decide) dL_law_1420 ?_
  refine lv_topi (fun v_2 ev_2 => ?_)
  obtain rfl : v_2 = xs 1 := ev_2
  refine lv_aload_n hx hb dL_law_1421 rfl (lv_at hl 0 rfl) ?_
  refine lv_iload hx hb dL_law_1422 (lv_at hl 4 rfl) ?_
  refine lv_iconst (v := 2) hx hb dL_law_1424 (by decide) ?_
  refine lv_iadd hx hb dL_law_1425 ?_
  refine lv_topi (fun v_3 ev_3 => ?_)
  obtain rfl : v_3 = 2 := ev_3.trans (by decide)
  refine va_sld hx hb hX hbl hbA hS (by unfold vp_in; decide) dL_law_1426 ?_
  refine lv_topi (fun v_4 ev_4 => ?_)
  obtain rfl : v_4 = xs 2 := ev_4
  have hPc := hP.sub (ws' := [(xh0, .inr (10, [.ref xq1, .ref xq4, .ref xq6, .ref xq9, .ref xq14, .ref xq19, .ref xq20, .ref xq25, .ref xq30, .ref xq33, .ref xq39, .ref xq45, .ref xq47, .int 0, .int (-1), .int 0, .int 0])), (xq14, .inr (1, [.ref xq16, .ref xq17, .ref xq18, .int 0, .int 0]))]) [0, 1] rfl
  have hDc := hD.sub (ws' := [(xh0, .inr (10, [.ref xq1, .ref xq4, .ref xq6, .ref xq9, .ref xq14, .ref xq19, .ref xq20, .ref xq25, .ref xq30, .ref xq33, .ref xq39, .ref xq45, .ref xq47, .int 0, .int (-1), .int 0, .int 0])), (xq14, .inr (1, [.ref xq16, .ref xq17, .ref xq18, .int 0, .int 0]))]) [0, 1] (by decide) rfl
  have hFc := zfr hS hA
  refine va_calli (va_runV (As := [.int (xs 1), .int (xs 2)]) (rest := []) ⟨hx, hb, hml, hown, hts⟩ (c_X10_truth l dC dI cI cJ xh0 xq1 xq4 xq6 xq9 xq14 xq19 xq20 xq25 xq30 xq33 xq39 xq45 xq47 xq16 xq17 xq18 H.size (xs 1) (xs 2)) (cwV 2 hts (zgV qw952 qw953 qw954 qw98 qw955) rfl rfl rfl hd_X10_truth ⟨Nat.le_of_ble_eq_true rfl, Nat.le_of_ble_eq_true rfl⟩) (zPV hPc hK hDc (va_recv hK hP (ci := 10) (q0 := 0) rfl rfl)) rfl rfl hl.1 rfl (lv_room (Nat.le_of_ble_eq_true rfl)) dL_law_1427 ⟨Nat.le_of_ble_eq_true rfl, Nat.le_of_ble_eq_true rfl⟩) hS (fun q _ h => hFc q h) hFc (fun r_5 u t H locs ht hvm hw hB hz1 hk1 hS => ?_)
  have hP := zkeep hP hk1
  have hw : r_5 = (-1) := hw
  subst hw
  refine lv_aload_n hx hb dL_law_1430 rfl (lv_at hl 2 rfl) ?_
  refine lv_aload_n hx hb dL_law_1431 rfl (lv_at hl 0 rfl) ?_
  refine lv_iload hx hb dL_law_1432 (lv_at hl 4 rfl) ?_
  refine lv_iconst (v := 1) hx hb dL_law_1434 (by decide) ?_
  refine lv_iadd hx hb dL_law_1435 ?_
  refine lv_topi (fun v_6 ev_6 => ?_)
  obtain rfl : v_6 = 1 := ev_6.trans (by decide)
  refine va_sld hx hb hX hbl hbA hS (by unfold vp_in; decide) dL_law_1436 ?_
  refine lv_topi (fun v_7 ev_7 => ?_)
  obtain rfl : v_7 = xs 1 := ev_7
  refine lv_aload_n hx hb dL_law_1437 rfl (lv_at hl 0 rfl) ?_
  refine lv_iload hx hb dL_law_1438 (lv_at hl 4 rfl) ?_
  refine lv_iconst (v := 2) hx hb dL_law_1440 (by decide) ?_
  refine lv_iadd hx hb dL_law_1441 ?_
  refine lv_topi (fun v_8 ev_8 => ?_)
  obtain rfl : v_8 = 2 := ev_8.trans (by decide)
  refine va_sld hx hb hX hbl hbA hS (by unfold vp_in; decide) dL_law_1442 ?_
  refine lv_topi (fun v_9 ev_9 => ?_)
  obtain rfl : v_9 = xs 2 := ev_9
  have hPc := hP.sub (ws' := [(mh0, .inr (11, [.int 0, .ref mq1, .int 0, .int 0, .int 0, .int 0, .ref mq2, .ref mq3, .ref mq4, .ref mq5, .ref mq6, .ref mq7, .ref mq8, .int 0, .int 0, .ref mq9, .ref mq10, .ref mq11, .ref mq12, .ref mq13, .int 0, .int 0, .ref mq14, .ref mq15, .ref mq16, .int 0, .int 0, .ref mq17, .ref mq18, .int (-1), .int 0, .ref mq19, .int 0, .long 0, .ref mq20, .int 0, .int 0, .ref mq21, .ref mq22, .ref mq23, .int 0]))]) [2] rfl
  have hDc := hD.sub (ws' := [(mh0, .inr (11, [.int 0, .ref mq1, .int 0, .int 0, .int 0, .int 0, .ref mq2, .ref mq3, .ref mq4, .ref mq5, .ref mq6, .ref mq7, .ref mq8, .int 0, .int 0, .ref mq9, .ref mq10, .ref mq11, .ref mq12, .ref mq13, .int 0, .int 0, .ref mq14, .ref mq15, .ref mq16, .int 0, .int 0, .ref mq17, .ref mq18, .int (-1), .int 0, .ref mq19, .int 0, .long 0, .ref mq20, .int 0, .int 0, .ref mq21, .ref mq22, .ref mq23, .int 0]))]) [2] (by decide) rfl
  have hFc := zfr hS hA
  refine va_calli (va_runV (As := [.int (xs 1), .int (xs 2)]) (rest := [.int (-1)]) ⟨hx, hb, hml, hown, hts⟩ (c_X11_truth l dC dI cI cJ mh0 mq1 mq2 mq3 mq4 mq5 mq6 mq7 mq8 mq9 mq10 mq11 mq12 mq13 mq14 mq15 mq16 mq17 mq18 mq19 mq20 mq21 mq22 mq23 H.size (xs 1) (xs 2)) (cwV 2 hts (zgV qw1679 qw1680 qw1681 qw108 qw1682) rfl rfl rfl hd_X11_truth ⟨Nat.le_of_ble_eq_true rfl, Nat.le_of_ble_eq_true rfl⟩) (zPV hPc hK hDc (va_recv hK hP (ci := 11) (q0 := 2) rfl rfl)) rfl rfl hl.1 rfl (lv_room (Nat.le_of_ble_eq_true rfl)) dL_law_1443 ⟨Nat.le_of_ble_eq_true rfl, Nat.le_of_ble_eq_true rfl⟩) hS (fun q _ h => hFc q h) hFc (fun r_10 u t H locs ht hvm hw hB hz1 hk1 hS => ?_)
  have hP := zkeep hP hk1
  have hw : r_10 = (-1) := hw
  subst hw
  refine lv_icmp_eq (tgt := 1825) hx hb dL_law_1446 (by decide) (fun _ => ?_) (fun c => absurd (by decide) c)
  exact law_end C0 hS (lv_sub hl [0, 4] rfl)
set_option maxHeartbeats 4000000 in
set_option maxRecDepth 100000 in
theorem law_case_34 {p : Program} {l : Launch} {e : Env} {s : State} {m : MethodId} {below : List Frame} {meth : Method} {c : Code} {b : Nat} {xs : Nat → Int32} {dC : Nat → ClassId} {dI : Nat → Nat → Nat} {cI cJ : ClassId} {xh0 mh0 o0 xq1 xq4 xq6 xq9 xq14 xq19 xq20 xq25 xq30 xq33 xq39 xq45 xq47 xq16 xq17 xq18 mq1 mq2 mq3 mq4 mq5 mq6 mq7 mq8 mq9 mq10 mq11 mq12 mq13 mq14 mq15 mq16 mq17 mq18 mq19 mq20 mq21 mq22 mq23 g0 : Nat} (hl0 : l.stackTraces = false) (C0 : lw_At p s m meth c b 7 xs) (hK : va_K (dC, dI) vwCl [(cI, .int), (cJ, .long)] s) (hF : zF g0 (fun q : Nat => s.heap.size ≤ q) s) (hG : zG (fun q : Nat => s.heap.size ≤ q) s) {H : Heap} {locs : List Loc} (hP : va_P (dC, dI) vwCl [(xh0, .inr (10, [.ref xq1, .ref xq4, .ref xq6, .ref xq9, .ref xq14, .ref xq19, .ref xq20, .ref xq25, .ref xq30, .ref xq33, .ref xq39, .ref xq45, .ref xq47, .int 0, .int (-1), .int 0, .int 0])), (xq14, .inr (1, [.ref xq16, .ref xq17, .ref xq18, .int 0, .int 0])), (mh0, .inr (11, [.int 0, .ref mq1, .int 0, .int 0, .int 0, .int 0, .ref mq2, .ref mq3, .ref mq4, .ref mq5, .ref mq6, .ref mq7, .ref mq8, .int 0, .int 0, .ref mq9, .ref mq10, .ref mq11, .ref mq12, .ref mq13, .int 0, .int 0, .ref mq14, .ref mq15, .ref mq16, .int 0, .int 0, .ref mq17, .ref mq18, .int (-1), .int 0, .ref mq19, .int 0, .long 0, .ref mq20, .int 0, .int 0, .ref mq21, .ref mq22, .ref mq23, .int 0]))] H) (hD : va_D (fun q : Nat => s.heap.size ≤ q) [(xh0, .inr (10, [.ref xq1, .ref xq4, .ref xq6, .ref xq9, .ref xq14, .ref xq19, .ref xq20, .ref xq25, .ref xq30, .ref xq33, .ref xq39, .ref xq45, .ref xq47, .int 0, .int (-1), .int 0, .int 0])), (xq14, .inr (1, [.ref xq16, .ref xq17, .ref xq18, .int 0, .int 0])), (mh0, .inr (11, [.int 0, .ref mq1, .int 0, .int 0, .int 0, .int 0, .ref mq2, .ref mq3, .ref mq4, .ref mq5, .ref mq6, .ref mq7, .ref mq8, .int 0, .int 0, .ref mq9, .ref mq10, .ref mq11, .ref mq12, .ref mq13, .int 0, .int 0, .ref mq14, .ref mq15, .ref mq16, .int 0, .int 0, .ref mq17, .ref mq18, .int (-1), .int 0, .ref mq19, .int 0, .long 0, .ref mq20, .int 0, .int 0, .ref mq21, .ref mq22, .ref mq23, .int 0]))]) (hS : va_S (fun q : Nat => s.heap.size ≤ q) s.heap H locs) {ls : Array Slot} (hl : lv_has ls 7 [(0, .ref b), (1, .ref xh0), (2, .ref mh0), (3, .ref o0), (4, .int 0)]) : W p l e room_1 s m #[Value.ref b] below meth c H locs 62 13545 (lw_Z below #[Value.ref b] s) (F0 m 1451 ls []) := by
  obtain ⟨hx, hb, hr, hml, hown, hts0, hX, hbl, hlocks, hgv⟩ := id C0
  have hts : ∀ w ∈ wA, w.before #[Value.ref b] s = true := fun w h => hts0 w (List.mem_filter.mp h).1
  have hown : s.vm.findClass RL = some m.cls := hown
  have hA : ∀ q : Nat, s.heap.size ≤ q → (fun q : Nat => s.heap.size ≤ q) q := fun _ h => h
  have hbA : ¬ (fun q : Nat => s.heap.size ≤ q) b := Nat.not_le.mpr hbl
  refine lv_aload_n hx hb dL_law_1451 rfl (lv_at hl 1 rfl) ?_
  refine lv_aload_n hx hb dL_law_1452 rfl (lv_at hl 0 rfl) ?_
  refine lv_iload hx hb dL_law_1453 (lv_at hl 4 rfl) ?_
  refine lv_iconst (v := 1) hx hb dL_law_1455 (by decide) ?_
  refine lv_iadd hx hb dL_law_1456 ?_
  refine lv_topi (fun v_1 ev_1 => ?_)
  obtain rfl : v_1 = 1 := ev_1.trans (by decide)
  refine va_sld hx hb hX hbl hbA hS (by unfold vp_in; decide) dL_law_1457 ?_
  refine lv_topi (fun v_2 ev_2 => ?_)
  obtain rfl : v_2 = xs 1 := ev_2
  refine lv_aload_n hx hb dL_law_1458 rfl (lv_at hl 0 rfl) ?_
  refine lv_iload hx hb dL_law_1459 (lv_at hl 4 rfl) ?_
  refine lv_iconst (v := 2) hx hb dL_law_1461 (by decide) ?_
  refine lv_iadd hx hb dL_law_1462 ?_
  refine lv_topi (fun v_3 ev_3 => ?_)
  obtain rfl : v_3 = 2 := ev_3.trans (by decide)
  refine va_sld hx hb hX hbl hbA hS (by unfold vp_in; decide) dL_law_1463 ?_
  refine lv_topi (fun v_4 ev_4 => ?_)
  obtain rfl : v_4 = xs 2 := ev_4
  have hPc := hP.sub (ws' := [(xh0, .inr (10, [.ref xq1, .ref xq4, .ref xq6, .ref xq9, .ref xq14, .ref xq19, .ref xq20, .ref xq25, .ref xq30, .ref xq33, .ref xq39, .ref xq45, .ref xq47, .int 0, .int (-1), .int 0, .int 0])), (xq14, .inr (1, [.ref xq16, .ref xq17, .ref xq18, .int 0, .int 0]))]) [0, 1] rfl
  have hDc := hD.sub (ws' := [(xh0, .inr (10, [.ref xq1, .ref xq4, .ref xq6, .ref xq9, .ref xq14, .ref xq19, .ref xq20, .ref xq25, .ref xq30, .ref xq33, .ref xq39, .ref xq45, .ref xq47, .int 0, .int (-1), .int 0, .int 0])), (xq14, .inr (1, [.ref xq16, .ref xq17, .ref xq18, .int 0, .int 0]))]) [0, 1] (by decide) rfl
  have hFc := zfr hS hA
  refine va_calli (va_runV (As := [.int (xs 1), .int (xs 2)]) (rest := []) ⟨hx, hb, hml, hown, hts⟩ (c_X10_cheapest l dC dI cI cJ xh0 xq1 xq4 xq6 xq9 xq14 xq19 xq20 xq25 xq30 xq33 xq39 xq45 xq47 xq16 xq17 xq18 H.size (xs 1) (xs 2)) (cwV 2 hts (zgV qw956 qw957 qw958 qw98 qw959) rfl rfl rfl hd_X10_cheapest ⟨Nat.le_of_ble_eq_true rfl, Nat.le_of_ble_eq_true rfl⟩) (zPV hPc hK hDc (va_recv hK hP (ci := 10) (q0 := 0) rfl rfl)) rfl rfl hl.1 rfl (lv_room (Nat.le_of_ble_eq_true rfl)) dL_law_1464 ⟨Nat.le_of_ble_eq_true rfl, Nat.le_of_ble_eq_true rfl⟩) hS (fun q _ h => hFc q h) hFc (fun r_5 u t H locs ht hvm hw hB hz1 hk1 hS => ?_)
  have hP := zkeep hP hk1
  have hw : r_5 = (-1) := hw
  subst hw
  refine lv_aload_n hx hb dL_law_1467 rfl (lv_at hl 2 rfl) ?_
  refine lv_aload_n hx hb dL_law_1468 rfl (lv_at hl 0 rfl) ?_
  refine lv_iload hx hb dL_law_1469 (lv_at hl 4 rfl) ?_
  refine lv_iconst (v := 1) hx hb dL_law_1471 (by decide) ?_
  refine lv_iadd hx hb dL_law_1472 ?_
  refine lv_topi (fun v_6 ev_6 => ?_)
  obtain rfl : v_6 = 1 := ev_6.trans (by decide)
  refine va_sld hx hb hX hbl hbA hS (by unfold vp_in; decide) dL_law_1473 ?_
  refine lv_topi (fun v_7 ev_7 => ?_)
  obtain rfl : v_7 = xs 1 := ev_7
  refine lv_aload_n hx hb dL_law_1474 rfl (lv_at hl 0 rfl) ?_
  refine lv_iload hx hb dL_law_1475 (lv_at hl 4 rfl) ?_
  refine lv_iconst (v := 2) hx hb dL_law_1477 (by decide) ?_
  refine lv_iadd hx hb dL_law_1478 ?_
  refine lv_topi (fun v_8 ev_8 => ?_)
  obtain rfl : v_8 = 2 := ev_8.trans (by decide)
  refine va_sld hx hb hX hbl hbA hS (by unfold vp_in; decide) dL_law_1479 ?_
  refine lv_topi (fun v_9 ev_9 => ?_)
  obtain rfl : v_9 = xs 2 := ev_9
  have hPc := hP.sub (ws' := [(mh0, .inr (11, [.int 0, .ref mq1, .int 0, .int 0, .int 0, .int 0, .ref mq2, .ref mq3, .ref mq4, .ref mq5, .ref mq6, .ref mq7, .ref mq8, .int 0, .int 0, .ref mq9, .ref mq10, .ref mq11, .ref mq12, .ref mq13, .int 0, .int 0, .ref mq14, .ref mq15, .ref mq16, .int 0, .int 0, .ref mq17, .ref mq18, .int (-1), .int 0, .ref mq19, .int 0, .long 0, .ref mq20, .int 0, .int 0, .ref mq21, .ref mq22, .ref mq23, .int 0]))]) [2] rfl
  have hDc := hD.sub (ws' := [(mh0, .inr (11, [.int 0, .ref mq1, .int 0, .int 0, .int 0, .int 0, .ref mq2, .ref mq3, .ref mq4, .ref mq5, .ref mq6, .ref mq7, .ref mq8, .int 0, .int 0, .ref mq9, .ref mq10, .ref mq11, .ref mq12, .ref mq13, .int 0, .int 0, .ref mq14, .ref mq15, .ref mq16, .int 0, .int 0, .ref mq17, .ref mq18, .int (-1), .int 0, .ref mq19, .int 0, .long 0, .ref mq20, .int 0, .int 0, .ref mq21, .ref mq22, .ref mq23, .int 0]))]) [2] (by decide) rfl
  have hFc := zfr hS hA
  refine va_calli (va_runV (As := [.int (xs 1), .int (xs 2)]) (rest := [.int (-1)]) ⟨hx, hb, hml, hown, hts⟩ (c_X11_cheapest l dC dI cI cJ mh0 mq1 mq2 mq3 mq4 mq5 mq6 mq7 mq8 mq9 mq10 mq11 mq12 mq13 mq14 mq15 mq16 mq17 mq18 mq19 mq20 mq21 mq22 mq23 H.size (xs 1) (xs 2)) (cwV 2 hts (zgV qw1683 qw1684 qw1685 qw108 qw1686) rfl rfl rfl hd_X11_cheapest ⟨Nat.le_of_ble_eq_true rfl, Nat.le_of_ble_eq_true rfl⟩) (zPV hPc hK hDc (va_recv hK hP (ci := 11) (q0 := 2) rfl rfl)) rfl rfl hl.1 rfl (lv_room (Nat.le_of_ble_eq_true rfl)) dL_law_1480 ⟨Nat.le_of_ble_eq_true rfl, Nat.le_of_ble_eq_true rfl⟩) hS (fun q _ h => hFc q h) hFc (fun r_10 u t H locs ht hvm hw hB hz1 hk1 hS => ?_)
  have hP := zkeep hP hk1
  have hw : r_10 = (-1) := hw
  subst hw
  refine lv_icmp_eq (tgt := 1825) hx hb dL_law_1483 (by decide) (fun _ => ?_) (fun c => absurd (by decide) c)
  exact law_end C0 hS (lv_sub hl [0, 4] rfl)
set_option maxHeartbeats 4000000 in
set_option maxRecDepth 100000 in
theorem law_case_35 {p : Program} {l : Launch} {e : Env} {s : State} {m : MethodId} {below : List Frame} {meth : Method} {c : Code} {b : Nat} {xs : Nat → Int32} {dC : Nat → ClassId} {dI : Nat → Nat → Nat} {cI cJ : ClassId} {xh0 mh0 o0 xq1 xq4 xq6 xq9 xq14 xq19 xq20 xq25 xq30 xq33 xq39 xq45 xq47 xq16 xq17 xq18 mq1 mq2 mq3 mq4 mq5 mq6 mq7 mq8 mq9 mq10 mq11 mq12 mq13 mq14 mq15 mq16 mq17 mq18 mq19 mq20 mq21 mq22 mq23 g0 : Nat} (hl0 : l.stackTraces = false) (C0 : lw_At p s m meth c b 7 xs) (hK : va_K (dC, dI) vwCl [(cI, .int), (cJ, .long)] s) (hF : zF g0 (fun q : Nat => s.heap.size ≤ q) s) (hG : zG (fun q : Nat => s.heap.size ≤ q) s) {H : Heap} {locs : List Loc} (hP : va_P (dC, dI) vwCl [(xh0, .inr (10, [.ref xq1, .ref xq4, .ref xq6, .ref xq9, .ref xq14, .ref xq19, .ref xq20, .ref xq25, .ref xq30, .ref xq33, .ref xq39, .ref xq45, .ref xq47, .int 0, .int (-1), .int 0, .int 0])), (xq14, .inr (1, [.ref xq16, .ref xq17, .ref xq18, .int 0, .int 0])), (mh0, .inr (11, [.int 0, .ref mq1, .int 0, .int 0, .int 0, .int 0, .ref mq2, .ref mq3, .ref mq4, .ref mq5, .ref mq6, .ref mq7, .ref mq8, .int 0, .int 0, .ref mq9, .ref mq10, .ref mq11, .ref mq12, .ref mq13, .int 0, .int 0, .ref mq14, .ref mq15, .ref mq16, .int 0, .int 0, .ref mq17, .ref mq18, .int (-1), .int 0, .ref mq19, .int 0, .long 0, .ref mq20, .int 0, .int 0, .ref mq21, .ref mq22, .ref mq23, .int 0]))] H) (hD : va_D (fun q : Nat => s.heap.size ≤ q) [(xh0, .inr (10, [.ref xq1, .ref xq4, .ref xq6, .ref xq9, .ref xq14, .ref xq19, .ref xq20, .ref xq25, .ref xq30, .ref xq33, .ref xq39, .ref xq45, .ref xq47, .int 0, .int (-1), .int 0, .int 0])), (xq14, .inr (1, [.ref xq16, .ref xq17, .ref xq18, .int 0, .int 0])), (mh0, .inr (11, [.int 0, .ref mq1, .int 0, .int 0, .int 0, .int 0, .ref mq2, .ref mq3, .ref mq4, .ref mq5, .ref mq6, .ref mq7, .ref mq8, .int 0, .int 0, .ref mq9, .ref mq10, .ref mq11, .ref mq12, .ref mq13, .int 0, .int 0, .ref mq14, .ref mq15, .ref mq16, .int 0, .int 0, .ref mq17, .ref mq18, .int (-1), .int 0, .ref mq19, .int 0, .long 0, .ref mq20, .int 0, .int 0, .ref mq21, .ref mq22, .ref mq23, .int 0]))]) (hS : va_S (fun q : Nat => s.heap.size ≤ q) s.heap H locs) {ls : Array Slot} (hl : lv_has ls 7 [(0, .ref b), (1, .ref xh0), (2, .ref mh0), (3, .ref o0), (4, .int 0)]) : W p l e room_1 s m #[Value.ref b] below meth c H locs 62 13545 (lw_Z below #[Value.ref b] s) (F0 m 1488 ls []) := by
  obtain ⟨hx, hb, hr, hml, hown, hts0, hX, hbl, hlocks, hgv⟩ := id C0
  have hts : ∀ w ∈ wA, w.before #[Value.ref b] s = true := fun w h => hts0 w (List.mem_filter.mp h).1
  have hown : s.vm.findClass RL = some m.cls := hown
  have hA : ∀ q : Nat, s.heap.size ≤ q → (fun q : Nat => s.heap.size ≤ q) q := fun _ h => h
  have hbA : ¬ (fun q : Nat => s.heap.size ≤ q) b := Nat.not_le.mpr hbl
  refine lv_aload_n hx hb dL_law_1488 rfl (lv_at hl 1 rfl) ?_
  refine lv_aload_n hx hb dL_law_1489 rfl (lv_at hl 0 rfl) ?_
  refine lv_iload hx hb dL_law_1490 (lv_at hl 4 rfl) ?_
  refine lv_iconst (v := 1) hx hb dL_law_1492 (by decide) ?_
  refine lv_iadd hx hb dL_law_1493 ?_
  refine lv_topi (fun v_1 ev_1 => ?_)
  obtain rfl : v_1 = 1 := ev_1.trans (by decide)
  refine va_sld hx hb hX hbl hbA hS (by unfold vp_in; decide) dL_law_1494 ?_
  refine lv_topi (fun v_2 ev_2 => ?_)
  obtain rfl : v_2 = xs 1 := ev_2
  have hPc := hP.sub (ws' := [(xh0, .inr (10, [.ref xq1, .ref xq4, .ref xq6, .ref xq9, .ref xq14, .ref xq19, .ref xq20, .ref xq25, .ref xq30, .ref xq33, .ref xq39, .ref xq45, .ref xq47, .int 0, .int (-1), .int 0, .int 0])), (xq14, .inr (1, [.ref xq16, .ref xq17, .ref xq18, .int 0, .int 0]))]) [0, 1] rfl
  have hDc := hD.sub (ws' := [(xh0, .inr (10, [.ref xq1, .ref xq4, .ref xq6, .ref xq9, .ref xq14, .ref xq19, .ref xq20, .ref xq25, .ref xq30, .ref xq33, .ref xq39, .ref xq45, .ref xq47, .int 0, .int (-1), .int 0, .int 0])), (xq14, .inr (1, [.ref xq16, .ref xq17, .ref xq18, .int 0, .int 0]))]) [0, 1] (by decide) rfl
  have hFc := zfr hS hA
  refine va_calli (va_runV (As := [.int (xs 1)]) (rest := []) ⟨hx, hb, hml, hown, hts⟩ (c_X10_looks l dC dI cI cJ xh0 xq1 xq4 xq6 xq9 xq14 xq19 xq20 xq25 xq30 xq33 xq39 xq45 xq47 xq16 xq17 xq18 H.size (xs 1)) (cwV 1 hts (zgV qw966 qw967 qw968 qw98 qw969) rfl rfl rfl hd_X10_looks ⟨Nat.le_of_ble_eq_true rfl, Nat.le_of_ble_eq_true rfl⟩) (zPV hPc hK hDc (va_recv hK hP (ci := 10) (q0 := 0) rfl rfl)) rfl rfl hl.1 rfl (lv_room (Nat.le_of_ble_eq_true rfl)) dL_law_1495 ⟨Nat.le_of_ble_eq_true rfl, Nat.le_of_ble_eq_true rfl⟩) hS (fun q _ h => hFc q h) hFc (fun r_3 u t H locs ht hvm hw hB hz1 hk1 hS => ?_)
  have hP := zkeep hP hk1
  have hw : r_3 = (-1000000) := hw
  subst hw
  refine lv_aload_n hx hb dL_law_1498 rfl (lv_at hl 2 rfl) ?_
  refine lv_aload_n hx hb dL_law_1499 rfl (lv_at hl 0 rfl) ?_
  refine lv_iload hx hb dL_law_1500 (lv_at hl 4 rfl) ?_
  refine lv_iconst (v := 1) hx hb dL_law_1502 (by decide) ?_
  refine lv_iadd hx hb dL_law_1503 ?_
  refine lv_topi (fun v_4 ev_4 => ?_)
  obtain rfl : v_4 = 1 := ev_4.trans (by decide)
  refine va_sld hx hb hX hbl hbA hS (by unfold vp_in; decide) dL_law_1504 ?_
  refine lv_topi (fun v_5 ev_5 => ?_)
  obtain rfl : v_5 = xs 1 := ev_5
  have hPc := hP.sub (ws' := [(mh0, .inr (11, [.int 0, .ref mq1, .int 0, .int 0, .int 0, .int 0, .ref mq2, .ref mq3, .ref mq4, .ref mq5, .ref mq6, .ref mq7, .ref mq8, .int 0, .int 0, .ref mq9, .ref mq10, .ref mq11, .ref mq12, .ref mq13, .int 0, .int 0, .ref mq14, .ref mq15, .ref mq16, .int 0, .int 0, .ref mq17, .ref mq18, .int (-1), .int 0, .ref mq19, .int 0, .long 0, .ref mq20, .int 0, .int 0, .ref mq21, .ref mq22, .ref mq23, .int 0]))]) [2] rfl
  have hDc := hD.sub (ws' := [(mh0, .inr (11, [.int 0, .ref mq1, .int 0, .int 0, .int 0, .int 0, .ref mq2, .ref mq3, .ref mq4, .ref mq5, .ref mq6, .ref mq7, .ref mq8, .int 0, .int 0, .ref mq9, .ref mq10, .ref mq11, .ref mq12, .ref mq13, .int 0, .int 0, .ref mq14, .ref mq15, .ref mq16, .int 0, .int 0, .ref mq17, .ref mq18, .int (-1), .int 0, .ref mq19, .int 0, .long 0, .ref mq20, .int 0, .int 0, .ref mq21, .ref mq22, .ref mq23, .int 0]))]) [2] (by decide) rfl
  have hFc := zfr hS hA
  refine va_calli (va_runV (As := [.int (xs 1)]) (rest := [.int (-1000000)]) ⟨hx, hb, hml, hown, hts⟩ (c_X11_looks l dC dI cI cJ mh0 mq1 mq2 mq3 mq4 mq5 mq6 mq7 mq8 mq9 mq10 mq11 mq12 mq13 mq14 mq15 mq16 mq17 mq18 mq19 mq20 mq21 mq22 mq23 H.size (xs 1)) (cwV 1 hts (zgV qw1691 qw1692 qw1693 qw108 qw1694) rfl rfl rfl hd_X11_looks ⟨Nat.le_of_ble_eq_true rfl, Nat.le_of_ble_eq_true rfl⟩) (zPV hPc hK hDc (va_recv hK hP (ci := 11) (q0 := 2) rfl rfl)) rfl rfl hl.1 rfl (lv_room (Nat.le_of_ble_eq_true rfl)) dL_law_1505 ⟨Nat.le_of_ble_eq_true rfl, Nat.le_of_ble_eq_true rfl⟩) hS (fun q _ h => hFc q h) hFc (fun r_6 u t H locs ht hvm hw hB hz1 hk1 hS => ?_)
  have hP := zkeep hP hk1
  have hw : r_6 = (-1000000) := hw
  subst hw
  refine lv_icmp_eq (tgt := 1825) hx hb dL_law_1508 (by decide) (fun _ => ?_) (fun c => absurd (by decide) c)
  exact law_end C0 hS (lv_sub hl [0, 4] rfl)
set_option maxHeartbeats 4000000 in
set_option maxRecDepth 100000 in
theorem law_case_36 {p : Program} {l : Launch} {e : Env} {s : State} {m : MethodId} {below : List Frame} {meth : Method} {c : Code} {b : Nat} {xs : Nat → Int32} {dC : Nat → ClassId} {dI : Nat → Nat → Nat} {cI cJ : ClassId} {xh0 mh0 o0 xq1 xq4 xq6 xq9 xq14 xq19 xq20 xq25 xq30 xq33 xq39 xq45 xq47 xq16 xq17 xq18 mq1 mq2 mq3 mq4 mq5 mq6 mq7 mq8 mq9 mq10 mq11 mq12 mq13 mq14 mq15 mq16 mq17 mq18 mq19 mq20 mq21 mq22 mq23 g0 : Nat} (hl0 : l.stackTraces = false) (C0 : lw_At p s m meth c b 7 xs) (hK : va_K (dC, dI) vwCl [(cI, .int), (cJ, .long)] s) (hF : zF g0 (fun q : Nat => s.heap.size ≤ q) s) (hG : zG (fun q : Nat => s.heap.size ≤ q) s) {H : Heap} {locs : List Loc} (hP : va_P (dC, dI) vwCl [(xh0, .inr (10, [.ref xq1, .ref xq4, .ref xq6, .ref xq9, .ref xq14, .ref xq19, .ref xq20, .ref xq25, .ref xq30, .ref xq33, .ref xq39, .ref xq45, .ref xq47, .int 0, .int (-1), .int 0, .int 0])), (xq14, .inr (1, [.ref xq16, .ref xq17, .ref xq18, .int 0, .int 0])), (mh0, .inr (11, [.int 0, .ref mq1, .int 0, .int 0, .int 0, .int 0, .ref mq2, .ref mq3, .ref mq4, .ref mq5, .ref mq6, .ref mq7, .ref mq8, .int 0, .int 0, .ref mq9, .ref mq10, .ref mq11, .ref mq12, .ref mq13, .int 0, .int 0, .ref mq14, .ref mq15, .ref mq16, .int 0, .int 0, .ref mq17, .ref mq18, .int (-1), .int 0, .ref mq19, .int 0, .long 0, .ref mq20, .int 0, .int 0, .ref mq21, .ref mq22, .ref mq23, .int 0]))] H) (hD : va_D (fun q : Nat => s.heap.size ≤ q) [(xh0, .inr (10, [.ref xq1, .ref xq4, .ref xq6, .ref xq9, .ref xq14, .ref xq19, .ref xq20, .ref xq25, .ref xq30, .ref xq33, .ref xq39, .ref xq45, .ref xq47, .int 0, .int (-1), .int 0, .int 0])), (xq14, .inr (1, [.ref xq16, .ref xq17, .ref xq18, .int 0, .int 0])), (mh0, .inr (11, [.int 0, .ref mq1, .int 0, .int 0, .int 0, .int 0, .ref mq2, .ref mq3, .ref mq4, .ref mq5, .ref mq6, .ref mq7, .ref mq8, .int 0, .int 0, .ref mq9, .ref mq10, .ref mq11, .ref mq12, .ref mq13, .int 0, .int 0, .ref mq14, .ref mq15, .ref mq16, .int 0, .int 0, .ref mq17, .ref mq18, .int (-1), .int 0, .ref mq19, .int 0, .long 0, .ref mq20, .int 0, .int 0, .ref mq21, .ref mq22, .ref mq23, .int 0]))]) (hS : va_S (fun q : Nat => s.heap.size ≤ q) s.heap H locs) {ls : Array Slot} (hl : lv_has ls 7 [(0, .ref b), (1, .ref xh0), (2, .ref mh0), (3, .ref o0), (4, .int 0)]) : W p l e room_1 s m #[Value.ref b] below meth c H locs 62 13545 (lw_Z below #[Value.ref b] s) (F0 m 1513 ls []) := by
  obtain ⟨hx, hb, hr, hml, hown, hts0, hX, hbl, hlocks, hgv⟩ := id C0
  have hts : ∀ w ∈ wA, w.before #[Value.ref b] s = true := fun w h => hts0 w (List.mem_filter.mp h).1
  have hown : s.vm.findClass RL = some m.cls := hown
  have hA : ∀ q : Nat, s.heap.size ≤ q → (fun q : Nat => s.heap.size ≤ q) q := fun _ h => h
  have hbA : ¬ (fun q : Nat => s.heap.size ≤ q) b := Nat.not_le.mpr hbl
  refine lv_aload_n hx hb dL_law_1513 rfl (lv_at hl 1 rfl) ?_
  refine lv_aload_n hx hb dL_law_1514 rfl (lv_at hl 0 rfl) ?_
  refine lv_iload hx hb dL_law_1515 (lv_at hl 4 rfl) ?_
  refine lv_iconst (v := 1) hx hb dL_law_1517 (by decide) ?_
  refine lv_iadd hx hb dL_law_1518 ?_
  refine lv_topi (fun v_1 ev_1 => ?_)
  obtain rfl : v_1 = 1 := ev_1.trans (by decide)
  refine va_sld hx hb hX hbl hbA hS (by unfold vp_in; decide) dL_law_1519 ?_
  refine lv_topi (fun v_2 ev_2 => ?_)
  obtain rfl : v_2 = xs 1 := ev_2
  refine lv_aload_n hx hb dL_law_1520 rfl (lv_at hl 0 rfl) ?_
  refine lv_iload hx hb dL_law_1521 (lv_at hl 4 rfl) ?_
  refine lv_iconst (v := 2) hx hb dL_law_1523 (by decide) ?_
  refine lv_iadd hx hb dL_law_1524 ?_
  refine lv_topi (fun v_3 ev_3 => ?_)
  obtain rfl : v_3 = 2 := ev_3.trans (by decide)
  refine va_sld hx hb hX hbl hbA hS (by unfold vp_in; decide) dL_law_1525 ?_
  refine lv_topi (fun v_4 ev_4 => ?_)
  obtain rfl : v_4 = xs 2 := ev_4
  have hPc := hP.sub (ws' := [(xh0, .inr (10, [.ref xq1, .ref xq4, .ref xq6, .ref xq9, .ref xq14, .ref xq19, .ref xq20, .ref xq25, .ref xq30, .ref xq33, .ref xq39, .ref xq45, .ref xq47, .int 0, .int (-1), .int 0, .int 0])), (xq14, .inr (1, [.ref xq16, .ref xq17, .ref xq18, .int 0, .int 0]))]) [0, 1] rfl
  have hDc := hD.sub (ws' := [(xh0, .inr (10, [.ref xq1, .ref xq4, .ref xq6, .ref xq9, .ref xq14, .ref xq19, .ref xq20, .ref xq25, .ref xq30, .ref xq33, .ref xq39, .ref xq45, .ref xq47, .int 0, .int (-1), .int 0, .int 0])), (xq14, .inr (1, [.ref xq16, .ref xq17, .ref xq18, .int 0, .int 0]))]) [0, 1] (by decide) rfl
  have hFc := zfr hS hA
  refine va_calli (va_runV (As := [.int (xs 1), .int (xs 2)]) (rest := []) ⟨hx, hb, hml, hown, hts⟩ (c_X10_whose l dC dI cI cJ xh0 xq1 xq4 xq6 xq9 xq14 xq19 xq20 xq25 xq30 xq33 xq39 xq45 xq47 xq16 xq17 xq18 H.size (xs 1) (xs 2)) (cwV 2 hts (zgV qw970 qw971 qw972 qw98 qw973) rfl rfl rfl hd_X10_whose ⟨Nat.le_of_ble_eq_true rfl, Nat.le_of_ble_eq_true rfl⟩) (zPV hPc hK hDc (va_recv hK hP (ci := 10) (q0 := 0) rfl rfl)) rfl rfl hl.1 rfl (lv_room (Nat.le_of_ble_eq_true rfl)) dL_law_1526 ⟨Nat.le_of_ble_eq_true rfl, Nat.le_of_ble_eq_true rfl⟩) hS (fun q _ h => hFc q h) hFc (fun r_5 u t H locs ht hvm hw hB hz1 hk1 hS => ?_)
  have hP := zkeep hP hk1
  have hw : r_5 = (-1) := hw
  subst hw
  refine lv_aload_n hx hb dL_law_1529 rfl (lv_at hl 2 rfl) ?_
  refine lv_aload_n hx hb dL_law_1530 rfl (lv_at hl 0 rfl) ?_
  refine lv_iload hx hb dL_law_1531 (lv_at hl 4 rfl) ?_
  refine lv_iconst (v := 1) hx hb dL_law_1533 (by decide) ?_
  refine lv_iadd hx hb dL_law_1534 ?_
  refine lv_topi (fun v_6 ev_6 => ?_)
  obtain rfl : v_6 = 1 := ev_6.trans (by decide)
  refine va_sld hx hb hX hbl hbA hS (by unfold vp_in; decide) dL_law_1535 ?_
  refine lv_topi (fun v_7 ev_7 => ?_)
  obtain rfl : v_7 = xs 1 := ev_7
  refine lv_aload_n hx hb dL_law_1536 rfl (lv_at hl 0 rfl) ?_
  refine lv_iload hx hb dL_law_1537 (lv_at hl 4 rfl) ?_
  refine lv_iconst (v := 2) hx hb dL_law_1539 (by decide) ?_
  refine lv_iadd hx hb dL_law_1540 ?_
  refine lv_topi (fun v_8 ev_8 => ?_)
  obtain rfl : v_8 = 2 := ev_8.trans (by decide)
  refine va_sld hx hb hX hbl hbA hS (by unfold vp_in; decide) dL_law_1541 ?_
  refine lv_topi (fun v_9 ev_9 => ?_)
  obtain rfl : v_9 = xs 2 := ev_9
  have hPc := hP.sub (ws' := [(mh0, .inr (11, [.int 0, .ref mq1, .int 0, .int 0, .int 0, .int 0, .ref mq2, .ref mq3, .ref mq4, .ref mq5, .ref mq6, .ref mq7, .ref mq8, .int 0, .int 0, .ref mq9, .ref mq10, .ref mq11, .ref mq12, .ref mq13, .int 0, .int 0, .ref mq14, .ref mq15, .ref mq16, .int 0, .int 0, .ref mq17, .ref mq18, .int (-1), .int 0, .ref mq19, .int 0, .long 0, .ref mq20, .int 0, .int 0, .ref mq21, .ref mq22, .ref mq23, .int 0]))]) [2] rfl
  have hDc := hD.sub (ws' := [(mh0, .inr (11, [.int 0, .ref mq1, .int 0, .int 0, .int 0, .int 0, .ref mq2, .ref mq3, .ref mq4, .ref mq5, .ref mq6, .ref mq7, .ref mq8, .int 0, .int 0, .ref mq9, .ref mq10, .ref mq11, .ref mq12, .ref mq13, .int 0, .int 0, .ref mq14, .ref mq15, .ref mq16, .int 0, .int 0, .ref mq17, .ref mq18, .int (-1), .int 0, .ref mq19, .int 0, .long 0, .ref mq20, .int 0, .int 0, .ref mq21, .ref mq22, .ref mq23, .int 0]))]) [2] (by decide) rfl
  have hFc := zfr hS hA
  refine va_calli (va_runV (As := [.int (xs 1), .int (xs 2)]) (rest := [.int (-1)]) ⟨hx, hb, hml, hown, hts⟩ (c_X11_whose l dC dI cI cJ mh0 mq1 mq2 mq3 mq4 mq5 mq6 mq7 mq8 mq9 mq10 mq11 mq12 mq13 mq14 mq15 mq16 mq17 mq18 mq19 mq20 mq21 mq22 mq23 H.size (xs 1) (xs 2)) (cwV 2 hts (zgV qw1695 qw1696 qw1697 qw108 qw1698) rfl rfl rfl hd_X11_whose ⟨Nat.le_of_ble_eq_true rfl, Nat.le_of_ble_eq_true rfl⟩) (zPV hPc hK hDc (va_recv hK hP (ci := 11) (q0 := 2) rfl rfl)) rfl rfl hl.1 rfl (lv_room (Nat.le_of_ble_eq_true rfl)) dL_law_1542 ⟨Nat.le_of_ble_eq_true rfl, Nat.le_of_ble_eq_true rfl⟩) hS (fun q _ h => hFc q h) hFc (fun r_10 u t H locs ht hvm hw hB hz1 hk1 hS => ?_)
  have hP := zkeep hP hk1
  have hw : r_10 = (-1) := hw
  subst hw
  refine lv_icmp_eq (tgt := 1825) hx hb dL_law_1545 (by decide) (fun _ => ?_) (fun c => absurd (by decide) c)
  exact law_end C0 hS (lv_sub hl [0, 4] rfl)
set_option maxHeartbeats 4000000 in
set_option maxRecDepth 100000 in
theorem law_case_37 {p : Program} {l : Launch} {e : Env} {s : State} {m : MethodId} {below : List Frame} {meth : Method} {c : Code} {b : Nat} {xs : Nat → Int32} {dC : Nat → ClassId} {dI : Nat → Nat → Nat} {cI cJ : ClassId} {xh0 mh0 o0 xq1 xq4 xq6 xq9 xq14 xq19 xq20 xq25 xq30 xq33 xq39 xq45 xq47 xq16 xq17 xq18 mq1 mq2 mq3 mq4 mq5 mq6 mq7 mq8 mq9 mq10 mq11 mq12 mq13 mq14 mq15 mq16 mq17 mq18 mq19 mq20 mq21 mq22 mq23 g0 : Nat} (hl0 : l.stackTraces = false) (C0 : lw_At p s m meth c b 7 xs) (hK : va_K (dC, dI) vwCl [(cI, .int), (cJ, .long)] s) (hF : zF g0 (fun q : Nat => s.heap.size ≤ q) s) (hG : zG (fun q : Nat => s.heap.size ≤ q) s) {H : Heap} {locs : List Loc} (hP : va_P (dC, dI) vwCl [(xh0, .inr (10, [.ref xq1, .ref xq4, .ref xq6, .ref xq9, .ref xq14, .ref xq19, .ref xq20, .ref xq25, .ref xq30, .ref xq33, .ref xq39, .ref xq45, .ref xq47, .int 0, .int (-1), .int 0, .int 0])), (xq14, .inr (1, [.ref xq16, .ref xq17, .ref xq18, .int 0, .int 0])), (mh0, .inr (11, [.int 0, .ref mq1, .int 0, .int 0, .int 0, .int 0, .ref mq2, .ref mq3, .ref mq4, .ref mq5, .ref mq6, .ref mq7, .ref mq8, .int 0, .int 0, .ref mq9, .ref mq10, .ref mq11, .ref mq12, .ref mq13, .int 0, .int 0, .ref mq14, .ref mq15, .ref mq16, .int 0, .int 0, .ref mq17, .ref mq18, .int (-1), .int 0, .ref mq19, .int 0, .long 0, .ref mq20, .int 0, .int 0, .ref mq21, .ref mq22, .ref mq23, .int 0]))] H) (hD : va_D (fun q : Nat => s.heap.size ≤ q) [(xh0, .inr (10, [.ref xq1, .ref xq4, .ref xq6, .ref xq9, .ref xq14, .ref xq19, .ref xq20, .ref xq25, .ref xq30, .ref xq33, .ref xq39, .ref xq45, .ref xq47, .int 0, .int (-1), .int 0, .int 0])), (xq14, .inr (1, [.ref xq16, .ref xq17, .ref xq18, .int 0, .int 0])), (mh0, .inr (11, [.int 0, .ref mq1, .int 0, .int 0, .int 0, .int 0, .ref mq2, .ref mq3, .ref mq4, .ref mq5, .ref mq6, .ref mq7, .ref mq8, .int 0, .int 0, .ref mq9, .ref mq10, .ref mq11, .ref mq12, .ref mq13, .int 0, .int 0, .ref mq14, .ref mq15, .ref mq16, .int 0, .int 0, .ref mq17, .ref mq18, .int (-1), .int 0, .ref mq19, .int 0, .long 0, .ref mq20, .int 0, .int 0, .ref mq21, .ref mq22, .ref mq23, .int 0]))]) (hS : va_S (fun q : Nat => s.heap.size ≤ q) s.heap H locs) {ls : Array Slot} (hl : lv_has ls 7 [(0, .ref b), (1, .ref xh0), (2, .ref mh0), (3, .ref o0), (4, .int 0)]) : W p l e room_1 s m #[Value.ref b] below meth c H locs 62 13545 (lw_Z below #[Value.ref b] s) (F0 m 1550 ls []) := by
  obtain ⟨hx, hb, hr, hml, hown, hts0, hX, hbl, hlocks, hgv⟩ := id C0
  have hts : ∀ w ∈ wA, w.before #[Value.ref b] s = true := fun w h => hts0 w (List.mem_filter.mp h).1
  have hown : s.vm.findClass RL = some m.cls := hown
  have hA : ∀ q : Nat, s.heap.size ≤ q → (fun q : Nat => s.heap.size ≤ q) q := fun _ h => h
  have hbA : ¬ (fun q : Nat => s.heap.size ≤ q) b := Nat.not_le.mpr hbl
  refine lv_aload_n hx hb dL_law_1550 rfl (lv_at hl 1 rfl) ?_
  refine lv_aload_n hx hb dL_law_1551 rfl (lv_at hl 0 rfl) ?_
  refine lv_iload hx hb dL_law_1552 (lv_at hl 4 rfl) ?_
  refine lv_iconst (v := 1) hx hb dL_law_1554 (by decide) ?_
  refine lv_iadd hx hb dL_law_1555 ?_
  refine lv_topi (fun v_1 ev_1 => ?_)
  obtain rfl : v_1 = 1 := ev_1.trans (by decide)
  refine va_sld hx hb hX hbl hbA hS (by unfold vp_in; decide) dL_law_1556 ?_
  refine lv_topi (fun v_2 ev_2 => ?_)
  obtain rfl : v_2 = xs 1 := ev_2
  refine lv_aload_n hx hb dL_law_1557 rfl (lv_at hl 0 rfl) ?_
  refine lv_iload hx hb dL_law_1558 (lv_at hl 4 rfl) ?_
  refine lv_iconst (v := 2) hx hb dL_law_1560 (by decide) ?_
  refine lv_iadd hx hb dL_law_1561 ?_
  refine lv_topi (fun v_3 ev_3 => ?_)
  obtain rfl : v_3 = 2 := ev_3.trans (by decide)
  refine va_sld hx hb hX hbl hbA hS (by unfold vp_in; decide) dL_law_1562 ?_
  refine lv_topi (fun v_4 ev_4 => ?_)
  obtain rfl : v_4 = xs 2 := ev_4
  refine lv_aload_n hx hb dL_law_1563 rfl (lv_at hl 0 rfl) ?_
  refine lv_iload hx hb dL_law_1564 (lv_at hl 4 rfl) ?_
  refine lv_iconst (v := 3) hx hb dL_law_1566 (by decide) ?_
  refine lv_iadd hx hb dL_law_1567 ?_
  refine lv_topi (fun v_5 ev_5 => ?_)
  obtain rfl : v_5 = 3 := ev_5.trans (by decide)
  refine va_sld hx hb hX hbl hbA hS (by unfold vp_in; decide) dL_law_1568 ?_
  refine lv_topi (fun v_6 ev_6 => ?_)
  obtain rfl : v_6 = xs 3 := ev_6
  have hPc := hP.sub (ws' := [(xh0, .inr (10, [.ref xq1, .ref xq4, .ref xq6, .ref xq9, .ref xq14, .ref xq19, .ref xq20, .ref xq25, .ref xq30, .ref xq33, .ref xq39, .ref xq45, .ref xq47, .int 0, .int (-1), .int 0, .int 0])), (xq14, .inr (1, [.ref xq16, .ref xq17, .ref xq18, .int 0, .int 0]))]) [0, 1] rfl
  have hDc := hD.sub (ws' := [(xh0, .inr (10, [.ref xq1, .ref xq4, .ref xq6, .ref xq9, .ref xq14, .ref xq19, .ref xq20, .ref xq25, .ref xq30, .ref xq33, .ref xq39, .ref xq45, .ref xq47, .int 0, .int (-1), .int 0, .int 0])), (xq14, .inr (1, [.ref xq16, .ref xq17, .ref xq18, .int 0, .int 0]))]) [0, 1] (by decide) rfl
  have hFc := zfr hS hA
  refine va_calli (va_runV (As := [.int (xs 1), .int (xs 2), .int (xs 3)]) (rest := []) ⟨hx, hb, hml, hown, hts⟩ (c_X10_heads l dC dI cI cJ xh0 xq1 xq4 xq6 xq9 xq14 xq19 xq20 xq25 xq30 xq33 xq39 xq45 xq47 xq16 xq17 xq18 H.size (xs 1) (xs 2) (xs 3)) (cwV 3 hts (zgV qw974 qw975 qw976 qw98 qw977) rfl rfl rfl hd_X10_heads ⟨Nat.le_of_ble_eq_true rfl, Nat.le_of_ble_eq_true rfl⟩) (zPV hPc hK hDc (va_recv hK hP (ci := 10) (q0 := 0) rfl rfl)) rfl rfl hl.1 rfl (lv_room (Nat.le_of_ble_eq_true rfl)) dL_law_1569 ⟨Nat.le_of_ble_eq_true rfl, Nat.le_of_ble_eq_true rfl⟩) hS (fun q _ h => hFc q h) hFc (fun r_7 u t H locs ht hvm hw hB hz1 hk1 hS => ?_)
  have hP := zkeep hP hk1
  have hw : r_7 = (-1) := hw
  subst hw
  refine lv_aload_n hx hb dL_law_1572 rfl (lv_at hl 2 rfl) ?_
  refine lv_aload_n hx hb dL_law_1573 rfl (lv_at hl 0 rfl) ?_
  refine lv_iload hx hb dL_law_1574 (lv_at hl 4 rfl) ?_
  refine lv_iconst (v := 1) hx hb dL_law_1576 (by decide) ?_
  refine lv_iadd hx hb dL_law_1577 ?_
  refine lv_topi (fun v_8 ev_8 => ?_)
  obtain rfl : v_8 = 1 := ev_8.trans (by decide)
  refine va_sld hx hb hX hbl hbA hS (by unfold vp_in; decide) dL_law_1578 ?_
  refine lv_topi (fun v_9 ev_9 => ?_)
  obtain rfl : v_9 = xs 1 := ev_9
  refine lv_aload_n hx hb dL_law_1579 rfl (lv_at hl 0 rfl) ?_
  refine lv_iload hx hb dL_law_1580 (lv_at hl 4 rfl) ?_
  refine lv_iconst (v := 2) hx hb dL_law_1582 (by decide) ?_
  refine lv_iadd hx hb dL_law_1583 ?_
  refine lv_topi (fun v_10 ev_10 => ?_)
  obtain rfl : v_10 = 2 := ev_10.trans (by decide)
  refine va_sld hx hb hX hbl hbA hS (by unfold vp_in; decide) dL_law_1584 ?_
  refine lv_topi (fun v_11 ev_11 => ?_)
  obtain rfl : v_11 = xs 2 := ev_11
  refine lv_aload_n hx hb dL_law_1585 rfl (lv_at hl 0 rfl) ?_
  refine lv_iload hx hb dL_law_1586 (lv_at hl 4 rfl) ?_
  refine lv_iconst (v := 3) hx hb dL_law_1588 (by decide) ?_
  refine lv_iadd hx hb dL_law_1589 ?_
  refine lv_topi (fun v_12 ev_12 => ?_)
  obtain rfl : v_12 = 3 := ev_12.trans (by decide)
  refine va_sld hx hb hX hbl hbA hS (by unfold vp_in; decide) dL_law_1590 ?_
  refine lv_topi (fun v_13 ev_13 => ?_)
  obtain rfl : v_13 = xs 3 := ev_13
  have hPc := hP.sub (ws' := [(mh0, .inr (11, [.int 0, .ref mq1, .int 0, .int 0, .int 0, .int 0, .ref mq2, .ref mq3, .ref mq4, .ref mq5, .ref mq6, .ref mq7, .ref mq8, .int 0, .int 0, .ref mq9, .ref mq10, .ref mq11, .ref mq12, .ref mq13, .int 0, .int 0, .ref mq14, .ref mq15, .ref mq16, .int 0, .int 0, .ref mq17, .ref mq18, .int (-1), .int 0, .ref mq19, .int 0, .long 0, .ref mq20, .int 0, .int 0, .ref mq21, .ref mq22, .ref mq23, .int 0]))]) [2] rfl
  have hDc := hD.sub (ws' := [(mh0, .inr (11, [.int 0, .ref mq1, .int 0, .int 0, .int 0, .int 0, .ref mq2, .ref mq3, .ref mq4, .ref mq5, .ref mq6, .ref mq7, .ref mq8, .int 0, .int 0, .ref mq9, .ref mq10, .ref mq11, .ref mq12, .ref mq13, .int 0, .int 0, .ref mq14, .ref mq15, .ref mq16, .int 0, .int 0, .ref mq17, .ref mq18, .int (-1), .int 0, .ref mq19, .int 0, .long 0, .ref mq20, .int 0, .int 0, .ref mq21, .ref mq22, .ref mq23, .int 0]))]) [2] (by decide) rfl
  have hFc := zfr hS hA
  refine va_calli (va_runV (As := [.int (xs 1), .int (xs 2), .int (xs 3)]) (rest := [.int (-1)]) ⟨hx, hb, hml, hown, hts⟩ (c_X11_heads l dC dI cI cJ mh0 mq1 mq2 mq3 mq4 mq5 mq6 mq7 mq8 mq9 mq10 mq11 mq12 mq13 mq14 mq15 mq16 mq17 mq18 mq19 mq20 mq21 mq22 mq23 H.size (xs 1) (xs 2) (xs 3)) (cwV 3 hts (zgV qw1699 qw1700 qw1701 qw108 qw1702) rfl rfl rfl hd_X11_heads ⟨Nat.le_of_ble_eq_true rfl, Nat.le_of_ble_eq_true rfl⟩) (zPV hPc hK hDc (va_recv hK hP (ci := 11) (q0 := 2) rfl rfl)) rfl rfl hl.1 rfl (lv_room (Nat.le_of_ble_eq_true rfl)) dL_law_1591 ⟨Nat.le_of_ble_eq_true rfl, Nat.le_of_ble_eq_true rfl⟩) hS (fun q _ h => hFc q h) hFc (fun r_14 u t H locs ht hvm hw hB hz1 hk1 hS => ?_)
  have hP := zkeep hP hk1
  have hw : r_14 = (-1) := hw
  subst hw
  refine lv_icmp_eq (tgt := 1825) hx hb dL_law_1594 (by decide) (fun _ => ?_) (fun c => absurd (by decide) c)
  exact law_end C0 hS (lv_sub hl [0, 4] rfl)
set_option maxHeartbeats 4000000 in
set_option maxRecDepth 100000 in
theorem law_case_38 {p : Program} {l : Launch} {e : Env} {s : State} {m : MethodId} {below : List Frame} {meth : Method} {c : Code} {b : Nat} {xs : Nat → Int32} {dC : Nat → ClassId} {dI : Nat → Nat → Nat} {cI cJ : ClassId} {xh0 mh0 o0 xq1 xq4 xq6 xq9 xq14 xq19 xq20 xq25 xq30 xq33 xq39 xq45 xq47 xq16 xq17 xq18 mq1 mq2 mq3 mq4 mq5 mq6 mq7 mq8 mq9 mq10 mq11 mq12 mq13 mq14 mq15 mq16 mq17 mq18 mq19 mq20 mq21 mq22 mq23 g0 : Nat} (hl0 : l.stackTraces = false) (C0 : lw_At p s m meth c b 7 xs) (hK : va_K (dC, dI) vwCl [(cI, .int), (cJ, .long)] s) (hF : zF g0 (fun q : Nat => s.heap.size ≤ q) s) (hG : zG (fun q : Nat => s.heap.size ≤ q) s) {H : Heap} {locs : List Loc} (hP : va_P (dC, dI) vwCl [(xh0, .inr (10, [.ref xq1, .ref xq4, .ref xq6, .ref xq9, .ref xq14, .ref xq19, .ref xq20, .ref xq25, .ref xq30, .ref xq33, .ref xq39, .ref xq45, .ref xq47, .int 0, .int (-1), .int 0, .int 0])), (xq14, .inr (1, [.ref xq16, .ref xq17, .ref xq18, .int 0, .int 0])), (mh0, .inr (11, [.int 0, .ref mq1, .int 0, .int 0, .int 0, .int 0, .ref mq2, .ref mq3, .ref mq4, .ref mq5, .ref mq6, .ref mq7, .ref mq8, .int 0, .int 0, .ref mq9, .ref mq10, .ref mq11, .ref mq12, .ref mq13, .int 0, .int 0, .ref mq14, .ref mq15, .ref mq16, .int 0, .int 0, .ref mq17, .ref mq18, .int (-1), .int 0, .ref mq19, .int 0, .long 0, .ref mq20, .int 0, .int 0, .ref mq21, .ref mq22, .ref mq23, .int 0]))] H) (hD : va_D (fun q : Nat => s.heap.size ≤ q) [(xh0, .inr (10, [.ref xq1, .ref xq4, .ref xq6, .ref xq9, .ref xq14, .ref xq19, .ref xq20, .ref xq25, .ref xq30, .ref xq33, .ref xq39, .ref xq45, .ref xq47, .int 0, .int (-1), .int 0, .int 0])), (xq14, .inr (1, [.ref xq16, .ref xq17, .ref xq18, .int 0, .int 0])), (mh0, .inr (11, [.int 0, .ref mq1, .int 0, .int 0, .int 0, .int 0, .ref mq2, .ref mq3, .ref mq4, .ref mq5, .ref mq6, .ref mq7, .ref mq8, .int 0, .int 0, .ref mq9, .ref mq10, .ref mq11, .ref mq12, .ref mq13, .int 0, .int 0, .ref mq14, .ref mq15, .ref mq16, .int 0, .int 0, .ref mq17, .ref mq18, .int (-1), .int 0, .ref mq19, .int 0, .long 0, .ref mq20, .int 0, .int 0, .ref mq21, .ref mq22, .ref mq23, .int 0]))]) (hS : va_S (fun q : Nat => s.heap.size ≤ q) s.heap H locs) {ls : Array Slot} (hl : lv_has ls 7 [(0, .ref b), (1, .ref xh0), (2, .ref mh0), (3, .ref o0), (4, .int 0)]) : W p l e room_1 s m #[Value.ref b] below meth c H locs 62 13545 (lw_Z below #[Value.ref b] s) (F0 m 1599 ls []) := by
  obtain ⟨hx, hb, hr, hml, hown, hts0, hX, hbl, hlocks, hgv⟩ := id C0
  have hts : ∀ w ∈ wA, w.before #[Value.ref b] s = true := fun w h => hts0 w (List.mem_filter.mp h).1
  have hown : s.vm.findClass RL = some m.cls := hown
  have hA : ∀ q : Nat, s.heap.size ≤ q → (fun q : Nat => s.heap.size ≤ q) q := fun _ h => h
  have hbA : ¬ (fun q : Nat => s.heap.size ≤ q) b := Nat.not_le.mpr hbl
  refine lv_aload_n hx hb dL_law_1599 rfl (lv_at hl 1 rfl) ?_
  refine lv_aload_n hx hb dL_law_1600 rfl (lv_at hl 0 rfl) ?_
  refine lv_iload hx hb dL_law_1601 (lv_at hl 4 rfl) ?_
  refine lv_iconst (v := 1) hx hb dL_law_1603 (by decide) ?_
  refine lv_iadd hx hb dL_law_1604 ?_
  refine lv_topi (fun v_1 ev_1 => ?_)
  obtain rfl : v_1 = 1 := ev_1.trans (by decide)
  refine va_sld hx hb hX hbl hbA hS (by unfold vp_in; decide) dL_law_1605 ?_
  refine lv_topi (fun v_2 ev_2 => ?_)
  obtain rfl : v_2 = xs 1 := ev_2
  have hPc := hP.sub (ws' := [(xh0, .inr (10, [.ref xq1, .ref xq4, .ref xq6, .ref xq9, .ref xq14, .ref xq19, .ref xq20, .ref xq25, .ref xq30, .ref xq33, .ref xq39, .ref xq45, .ref xq47, .int 0, .int (-1), .int 0, .int 0])), (xq14, .inr (1, [.ref xq16, .ref xq17, .ref xq18, .int 0, .int 0]))]) [0, 1] rfl
  have hDc := hD.sub (ws' := [(xh0, .inr (10, [.ref xq1, .ref xq4, .ref xq6, .ref xq9, .ref xq14, .ref xq19, .ref xq20, .ref xq25, .ref xq30, .ref xq33, .ref xq39, .ref xq45, .ref xq47, .int 0, .int (-1), .int 0, .int 0])), (xq14, .inr (1, [.ref xq16, .ref xq17, .ref xq18, .int 0, .int 0]))]) [0, 1] (by decide) rfl
  have hFc := zfr hS hA
  refine va_calli (va_runV (As := [.int (xs 1)]) (rest := []) ⟨hx, hb, hml, hown, hts⟩ (c_X10_matched l dC dI cI cJ xh0 xq1 xq4 xq6 xq9 xq14 xq19 xq20 xq25 xq30 xq33 xq39 xq45 xq47 xq16 xq17 xq18 H.size (xs 1)) (cwV 1 hts (zgV qw980 qw981 qw982 qw98 qw983) rfl rfl rfl hd_X10_matched ⟨Nat.le_of_ble_eq_true rfl, Nat.le_of_ble_eq_true rfl⟩) (zPV hPc hK hDc (va_recv hK hP (ci := 10) (q0 := 0) rfl rfl)) rfl rfl hl.1 rfl (lv_room (Nat.le_of_ble_eq_true rfl)) dL_law_1606 ⟨Nat.le_of_ble_eq_true rfl, Nat.le_of_ble_eq_true rfl⟩) hS (fun q _ h => hFc q h) hFc (fun r_3 u t H locs ht hvm hw hB hz1 hk1 hS => ?_)
  have hP := zkeep hP hk1
  have hw : r_3 = (-1) := hw
  subst hw
  refine lv_aload_n hx hb dL_law_1609 rfl (lv_at hl 2 rfl) ?_
  refine lv_aload_n hx hb dL_law_1610 rfl (lv_at hl 0 rfl) ?_
  refine lv_iload hx hb dL_law_1611 (lv_at hl 4 rfl) ?_
  refine lv_iconst (v := 1) hx hb dL_law_1613 (by decide) ?_
  refine lv_iadd hx hb dL_law_1614 ?_
  refine lv_topi (fun v_4 ev_4 => ?_)
  obtain rfl : v_4 = 1 := ev_4.trans (by decide)
  refine va_sld hx hb hX hbl hbA hS (by unfold vp_in; decide) dL_law_1615 ?_
  refine lv_topi (fun v_5 ev_5 => ?_)
  obtain rfl : v_5 = xs 1 := ev_5
  have hPc := hP.sub (ws' := [(mh0, .inr (11, [.int 0, .ref mq1, .int 0, .int 0, .int 0, .int 0, .ref mq2, .ref mq3, .ref mq4, .ref mq5, .ref mq6, .ref mq7, .ref mq8, .int 0, .int 0, .ref mq9, .ref mq10, .ref mq11, .ref mq12, .ref mq13, .int 0, .int 0, .ref mq14, .ref mq15, .ref mq16, .int 0, .int 0, .ref mq17, .ref mq18, .int (-1), .int 0, .ref mq19, .int 0, .long 0, .ref mq20, .int 0, .int 0, .ref mq21, .ref mq22, .ref mq23, .int 0]))]) [2] rfl
  have hDc := hD.sub (ws' := [(mh0, .inr (11, [.int 0, .ref mq1, .int 0, .int 0, .int 0, .int 0, .ref mq2, .ref mq3, .ref mq4, .ref mq5, .ref mq6, .ref mq7, .ref mq8, .int 0, .int 0, .ref mq9, .ref mq10, .ref mq11, .ref mq12, .ref mq13, .int 0, .int 0, .ref mq14, .ref mq15, .ref mq16, .int 0, .int 0, .ref mq17, .ref mq18, .int (-1), .int 0, .ref mq19, .int 0, .long 0, .ref mq20, .int 0, .int 0, .ref mq21, .ref mq22, .ref mq23, .int 0]))]) [2] (by decide) rfl
  have hFc := zfr hS hA
  refine va_calli (va_runV (As := [.int (xs 1)]) (rest := [.int (-1)]) ⟨hx, hb, hml, hown, hts⟩ (c_X11_matched l dC dI cI cJ mh0 mq1 mq2 mq3 mq4 mq5 mq6 mq7 mq8 mq9 mq10 mq11 mq12 mq13 mq14 mq15 mq16 mq17 mq18 mq19 mq20 mq21 mq22 mq23 H.size (xs 1)) (cwV 1 hts (zgV qw1705 qw1706 qw1707 qw108 qw1708) rfl rfl rfl hd_X11_matched ⟨Nat.le_of_ble_eq_true rfl, Nat.le_of_ble_eq_true rfl⟩) (zPV hPc hK hDc (va_recv hK hP (ci := 11) (q0 := 2) rfl rfl)) rfl rfl hl.1 rfl (lv_room (Nat.le_of_ble_eq_true rfl)) dL_law_1616 ⟨Nat.le_of_ble_eq_true rfl, Nat.le_of_ble_eq_true rfl⟩) hS (fun q _ h => hFc q h) hFc (fun r_6 u t H locs ht hvm hw hB hz1 hk1 hS => ?_)
  have hP := zkeep hP hk1
  have hw : r_6 = (-1) := hw
  subst hw
  refine lv_icmp_eq (tgt := 1825) hx hb dL_law_1619 (by decide) (fun _ => ?_) (fun c => absurd (by decide) c)
  exact law_end C0 hS (lv_sub hl [0, 4] rfl)
set_option maxHeartbeats 4000000 in
set_option maxRecDepth 100000 in
theorem law_case_39 {p : Program} {l : Launch} {e : Env} {s : State} {m : MethodId} {below : List Frame} {meth : Method} {c : Code} {b : Nat} {xs : Nat → Int32} {dC : Nat → ClassId} {dI : Nat → Nat → Nat} {cI cJ : ClassId} {xh0 mh0 o0 xq1 xq4 xq6 xq9 xq14 xq19 xq20 xq25 xq30 xq33 xq39 xq45 xq47 xq16 xq17 xq18 mq1 mq2 mq3 mq4 mq5 mq6 mq7 mq8 mq9 mq10 mq11 mq12 mq13 mq14 mq15 mq16 mq17 mq18 mq19 mq20 mq21 mq22 mq23 g0 : Nat} (hl0 : l.stackTraces = false) (C0 : lw_At p s m meth c b 7 xs) (hK : va_K (dC, dI) vwCl [(cI, .int), (cJ, .long)] s) (hF : zF g0 (fun q : Nat => s.heap.size ≤ q) s) (hG : zG (fun q : Nat => s.heap.size ≤ q) s) {H : Heap} {locs : List Loc} (hP : va_P (dC, dI) vwCl [(xh0, .inr (10, [.ref xq1, .ref xq4, .ref xq6, .ref xq9, .ref xq14, .ref xq19, .ref xq20, .ref xq25, .ref xq30, .ref xq33, .ref xq39, .ref xq45, .ref xq47, .int 0, .int (-1), .int 0, .int 0])), (xq14, .inr (1, [.ref xq16, .ref xq17, .ref xq18, .int 0, .int 0])), (mh0, .inr (11, [.int 0, .ref mq1, .int 0, .int 0, .int 0, .int 0, .ref mq2, .ref mq3, .ref mq4, .ref mq5, .ref mq6, .ref mq7, .ref mq8, .int 0, .int 0, .ref mq9, .ref mq10, .ref mq11, .ref mq12, .ref mq13, .int 0, .int 0, .ref mq14, .ref mq15, .ref mq16, .int 0, .int 0, .ref mq17, .ref mq18, .int (-1), .int 0, .ref mq19, .int 0, .long 0, .ref mq20, .int 0, .int 0, .ref mq21, .ref mq22, .ref mq23, .int 0]))] H) (hD : va_D (fun q : Nat => s.heap.size ≤ q) [(xh0, .inr (10, [.ref xq1, .ref xq4, .ref xq6, .ref xq9, .ref xq14, .ref xq19, .ref xq20, .ref xq25, .ref xq30, .ref xq33, .ref xq39, .ref xq45, .ref xq47, .int 0, .int (-1), .int 0, .int 0])), (xq14, .inr (1, [.ref xq16, .ref xq17, .ref xq18, .int 0, .int 0])), (mh0, .inr (11, [.int 0, .ref mq1, .int 0, .int 0, .int 0, .int 0, .ref mq2, .ref mq3, .ref mq4, .ref mq5, .ref mq6, .ref mq7, .ref mq8, .int 0, .int 0, .ref mq9, .ref mq10, .ref mq11, .ref mq12, .ref mq13, .int 0, .int 0, .ref mq14, .ref mq15, .ref mq16, .int 0, .int 0, .ref mq17, .ref mq18, .int (-1), .int 0, .ref mq19, .int 0, .long 0, .ref mq20, .int 0, .int 0, .ref mq21, .ref mq22, .ref mq23, .int 0]))]) (hS : va_S (fun q : Nat => s.heap.size ≤ q) s.heap H locs) {ls : Array Slot} (hl : lv_has ls 7 [(0, .ref b), (1, .ref xh0), (2, .ref mh0), (3, .ref o0), (4, .int 0)]) : W p l e room_1 s m #[Value.ref b] below meth c H locs 62 13545 (lw_Z below #[Value.ref b] s) (F0 m 1624 ls []) := by
  obtain ⟨hx, hb, hr, hml, hown, hts0, hX, hbl, hlocks, hgv⟩ := id C0
  have hts : ∀ w ∈ wA, w.before #[Value.ref b] s = true := fun w h => hts0 w (List.mem_filter.mp h).1
  have hown : s.vm.findClass RL = some m.cls := hown
  have hA : ∀ q : Nat, s.heap.size ≤ q → (fun q : Nat => s.heap.size ≤ q) q := fun _ h => h
  have hbA : ¬ (fun q : Nat => s.heap.size ≤ q) b := Nat.not_le.mpr hbl
  refine lv_aload_n hx hb dL_law_1624 rfl (lv_at hl 1 rfl) ?_
  refine lv_aload_n hx hb dL_law_1625 rfl (lv_at hl 0 rfl) ?_
  refine lv_iload hx hb dL_law_1626 (lv_at hl 4 rfl) ?_
  refine lv_iconst (v := 1) hx hb dL_law_1628 (by decide) ?_
  refine lv_iadd hx hb dL_law_1629 ?_
  refine lv_topi (fun v_1 ev_1 => ?_)
  obtain rfl : v_1 = 1 := ev_1.trans (by decide)
  refine va_sld hx hb hX hbl hbA hS (by unfold vp_in; decide) dL_law_1630 ?_
  refine lv_topi (fun v_2 ev_2 => ?_)
  obtain rfl : v_2 = xs 1 := ev_2
  have hPc := hP.sub (ws' := [(xh0, .inr (10, [.ref xq1, .ref xq4, .ref xq6, .ref xq9, .ref xq14, .ref xq19, .ref xq20, .ref xq25, .ref xq30, .ref xq33, .ref xq39, .ref xq45, .ref xq47, .int 0, .int (-1), .int 0, .int 0])), (xq14, .inr (1, [.ref xq16, .ref xq17, .ref xq18, .int 0, .int 0]))]) [0, 1] rfl
  have hDc := hD.sub (ws' := [(xh0, .inr (10, [.ref xq1, .ref xq4, .ref xq6, .ref xq9, .ref xq14, .ref xq19, .ref xq20, .ref xq25, .ref xq30, .ref xq33, .ref xq39, .ref xq45, .ref xq47, .int 0, .int (-1), .int 0, .int 0])), (xq14, .inr (1, [.ref xq16, .ref xq17, .ref xq18, .int 0, .int 0]))]) [0, 1] (by decide) rfl
  have hFc := zfr hS hA
  refine va_calli (va_runV (As := [.int (xs 1)]) (rest := []) ⟨hx, hb, hml, hown, hts⟩ (c_X10_most l dC dI cI cJ xh0 xq1 xq4 xq6 xq9 xq14 xq19 xq20 xq25 xq30 xq33 xq39 xq45 xq47 xq16 xq17 xq18 H.size (xs 1)) (cwV 1 hts (zgV qw988 qw989 qw990 qw98 qw991) rfl rfl rfl hd_X10_most ⟨Nat.le_of_ble_eq_true rfl, Nat.le_of_ble_eq_true rfl⟩) (zPV hPc hK hDc (va_recv hK hP (ci := 10) (q0 := 0) rfl rfl)) rfl rfl hl.1 rfl (lv_room (Nat.le_of_ble_eq_true rfl)) dL_law_1631 ⟨Nat.le_of_ble_eq_true rfl, Nat.le_of_ble_eq_true rfl⟩) hS (fun q _ h => hFc q h) hFc (fun r_3 u t H locs ht hvm hw hB hz1 hk1 hS => ?_)
  have hP := zkeep hP hk1
  have hw : r_3 = (-1) := hw
  subst hw
  refine lv_aload_n hx hb dL_law_1634 rfl (lv_at hl 2 rfl) ?_
  refine lv_aload_n hx hb dL_law_1635 rfl (lv_at hl 0 rfl) ?_
  refine lv_iload hx hb dL_law_1636 (lv_at hl 4 rfl) ?_
  refine lv_iconst (v := 1) hx hb dL_law_1638 (by decide) ?_
  refine lv_iadd hx hb dL_law_1639 ?_
  refine lv_topi (fun v_4 ev_4 => ?_)
  obtain rfl : v_4 = 1 := ev_4.trans (by decide)
  refine va_sld hx hb hX hbl hbA hS (by unfold vp_in; decide) dL_law_1640 ?_
  refine lv_topi (fun v_5 ev_5 => ?_)
  obtain rfl : v_5 = xs 1 := ev_5
  have hPc := hP.sub (ws' := [(mh0, .inr (11, [.int 0, .ref mq1, .int 0, .int 0, .int 0, .int 0, .ref mq2, .ref mq3, .ref mq4, .ref mq5, .ref mq6, .ref mq7, .ref mq8, .int 0, .int 0, .ref mq9, .ref mq10, .ref mq11, .ref mq12, .ref mq13, .int 0, .int 0, .ref mq14, .ref mq15, .ref mq16, .int 0, .int 0, .ref mq17, .ref mq18, .int (-1), .int 0, .ref mq19, .int 0, .long 0, .ref mq20, .int 0, .int 0, .ref mq21, .ref mq22, .ref mq23, .int 0]))]) [2] rfl
  have hDc := hD.sub (ws' := [(mh0, .inr (11, [.int 0, .ref mq1, .int 0, .int 0, .int 0, .int 0, .ref mq2, .ref mq3, .ref mq4, .ref mq5, .ref mq6, .ref mq7, .ref mq8, .int 0, .int 0, .ref mq9, .ref mq10, .ref mq11, .ref mq12, .ref mq13, .int 0, .int 0, .ref mq14, .ref mq15, .ref mq16, .int 0, .int 0, .ref mq17, .ref mq18, .int (-1), .int 0, .ref mq19, .int 0, .long 0, .ref mq20, .int 0, .int 0, .ref mq21, .ref mq22, .ref mq23, .int 0]))]) [2] (by decide) rfl
  have hFc := zfr hS hA
  refine va_calli (va_runV (As := [.int (xs 1)]) (rest := [.int (-1)]) ⟨hx, hb, hml, hown, hts⟩ (c_X11_most l dC dI cI cJ mh0 mq1 mq2 mq3 mq4 mq5 mq6 mq7 mq8 mq9 mq10 mq11 mq12 mq13 mq14 mq15 mq16 mq17 mq18 mq19 mq20 mq21 mq22 mq23 H.size (xs 1)) (cwV 1 hts (zgV qw1721 qw1722 qw1723 qw108 qw1724) rfl rfl rfl hd_X11_most ⟨Nat.le_of_ble_eq_true rfl, Nat.le_of_ble_eq_true rfl⟩) (zPV hPc hK hDc (va_recv hK hP (ci := 11) (q0 := 2) rfl rfl)) rfl rfl hl.1 rfl (lv_room (Nat.le_of_ble_eq_true rfl)) dL_law_1641 ⟨Nat.le_of_ble_eq_true rfl, Nat.le_of_ble_eq_true rfl⟩) hS (fun q _ h => hFc q h) hFc (fun r_6 u t H locs ht hvm hw hB hz1 hk1 hS => ?_)
  have hP := zkeep hP hk1
  have hw : r_6 = (-1) := hw
  subst hw
  refine lv_icmp_eq (tgt := 1825) hx hb dL_law_1644 (by decide) (fun _ => ?_) (fun c => absurd (by decide) c)
  exact law_end C0 hS (lv_sub hl [0, 4] rfl)
set_option maxHeartbeats 4000000 in
set_option maxRecDepth 100000 in
theorem law_case_40 {p : Program} {l : Launch} {e : Env} {s : State} {m : MethodId} {below : List Frame} {meth : Method} {c : Code} {b : Nat} {xs : Nat → Int32} {dC : Nat → ClassId} {dI : Nat → Nat → Nat} {cI cJ : ClassId} {xh0 mh0 o0 xq1 xq4 xq6 xq9 xq14 xq19 xq20 xq25 xq30 xq33 xq39 xq45 xq47 xq16 xq17 xq18 mq1 mq2 mq3 mq4 mq5 mq6 mq7 mq8 mq9 mq10 mq11 mq12 mq13 mq14 mq15 mq16 mq17 mq18 mq19 mq20 mq21 mq22 mq23 g0 : Nat} (hl0 : l.stackTraces = false) (C0 : lw_At p s m meth c b 7 xs) (hK : va_K (dC, dI) vwCl [(cI, .int), (cJ, .long)] s) (hF : zF g0 (fun q : Nat => s.heap.size ≤ q) s) (hG : zG (fun q : Nat => s.heap.size ≤ q) s) {H : Heap} {locs : List Loc} (hP : va_P (dC, dI) vwCl [(xh0, .inr (10, [.ref xq1, .ref xq4, .ref xq6, .ref xq9, .ref xq14, .ref xq19, .ref xq20, .ref xq25, .ref xq30, .ref xq33, .ref xq39, .ref xq45, .ref xq47, .int 0, .int (-1), .int 0, .int 0])), (xq14, .inr (1, [.ref xq16, .ref xq17, .ref xq18, .int 0, .int 0])), (mh0, .inr (11, [.int 0, .ref mq1, .int 0, .int 0, .int 0, .int 0, .ref mq2, .ref mq3, .ref mq4, .ref mq5, .ref mq6, .ref mq7, .ref mq8, .int 0, .int 0, .ref mq9, .ref mq10, .ref mq11, .ref mq12, .ref mq13, .int 0, .int 0, .ref mq14, .ref mq15, .ref mq16, .int 0, .int 0, .ref mq17, .ref mq18, .int (-1), .int 0, .ref mq19, .int 0, .long 0, .ref mq20, .int 0, .int 0, .ref mq21, .ref mq22, .ref mq23, .int 0]))] H) (hD : va_D (fun q : Nat => s.heap.size ≤ q) [(xh0, .inr (10, [.ref xq1, .ref xq4, .ref xq6, .ref xq9, .ref xq14, .ref xq19, .ref xq20, .ref xq25, .ref xq30, .ref xq33, .ref xq39, .ref xq45, .ref xq47, .int 0, .int (-1), .int 0, .int 0])), (xq14, .inr (1, [.ref xq16, .ref xq17, .ref xq18, .int 0, .int 0])), (mh0, .inr (11, [.int 0, .ref mq1, .int 0, .int 0, .int 0, .int 0, .ref mq2, .ref mq3, .ref mq4, .ref mq5, .ref mq6, .ref mq7, .ref mq8, .int 0, .int 0, .ref mq9, .ref mq10, .ref mq11, .ref mq12, .ref mq13, .int 0, .int 0, .ref mq14, .ref mq15, .ref mq16, .int 0, .int 0, .ref mq17, .ref mq18, .int (-1), .int 0, .ref mq19, .int 0, .long 0, .ref mq20, .int 0, .int 0, .ref mq21, .ref mq22, .ref mq23, .int 0]))]) (hS : va_S (fun q : Nat => s.heap.size ≤ q) s.heap H locs) {ls : Array Slot} (hl : lv_has ls 7 [(0, .ref b), (1, .ref xh0), (2, .ref mh0), (3, .ref o0), (4, .int 0)]) : W p l e room_1 s m #[Value.ref b] below meth c H locs 62 13545 (lw_Z below #[Value.ref b] s) (F0 m 1649 ls []) := by
  obtain ⟨hx, hb, hr, hml, hown, hts0, hX, hbl, hlocks, hgv⟩ := id C0
  have hts : ∀ w ∈ wA, w.before #[Value.ref b] s = true := fun w h => hts0 w (List.mem_filter.mp h).1
  have hown : s.vm.findClass RL = some m.cls := hown
  have hA : ∀ q : Nat, s.heap.size ≤ q → (fun q : Nat => s.heap.size ≤ q) q := fun _ h => h
  have hbA : ¬ (fun q : Nat => s.heap.size ≤ q) b := Nat.not_le.mpr hbl
  refine lv_aload_n hx hb dL_law_1649 rfl (lv_at hl 1 rfl) ?_
  refine lv_aload_n hx hb dL_law_1650 rfl (lv_at hl 0 rfl) ?_
  refine lv_iload hx hb dL_law_1651 (lv_at hl 4 rfl) ?_
  refine lv_iconst (v := 1) hx hb dL_law_1653 (by decide) ?_
  refine lv_iadd hx hb dL_law_1654 ?_
  refine lv_topi (fun v_1 ev_1 => ?_)
  obtain rfl : v_1 = 1 := ev_1.trans (by decide)
  refine va_sld hx hb hX hbl hbA hS (by unfold vp_in; decide) dL_law_1655 ?_
  refine lv_topi (fun v_2 ev_2 => ?_)
  obtain rfl : v_2 = xs 1 := ev_2
  have hPc := hP.sub (ws' := [(xh0, .inr (10, [.ref xq1, .ref xq4, .ref xq6, .ref xq9, .ref xq14, .ref xq19, .ref xq20, .ref xq25, .ref xq30, .ref xq33, .ref xq39, .ref xq45, .ref xq47, .int 0, .int (-1), .int 0, .int 0])), (xq14, .inr (1, [.ref xq16, .ref xq17, .ref xq18, .int 0, .int 0]))]) [0, 1] rfl
  have hDc := hD.sub (ws' := [(xh0, .inr (10, [.ref xq1, .ref xq4, .ref xq6, .ref xq9, .ref xq14, .ref xq19, .ref xq20, .ref xq25, .ref xq30, .ref xq33, .ref xq39, .ref xq45, .ref xq47, .int 0, .int (-1), .int 0, .int 0])), (xq14, .inr (1, [.ref xq16, .ref xq17, .ref xq18, .int 0, .int 0]))]) [0, 1] (by decide) rfl
  have hFc := zfr hS hA
  refine va_calli (va_runV (As := [.int (xs 1)]) (rest := []) ⟨hx, hb, hml, hown, hts⟩ (c_X10_seen l dC dI cI cJ xh0 xq1 xq4 xq6 xq9 xq14 xq19 xq20 xq25 xq30 xq33 xq39 xq45 xq47 xq16 xq17 xq18 H.size (xs 1)) (cwV 1 hts (zgV qw1013 qw1014 qw1015 qw98 qw1016) rfl rfl rfl hd_X10_seen ⟨Nat.le_of_ble_eq_true rfl, Nat.le_of_ble_eq_true rfl⟩) (zPV hPc hK hDc (va_recv hK hP (ci := 10) (q0 := 0) rfl rfl)) rfl rfl hl.1 rfl (lv_room (Nat.le_of_ble_eq_true rfl)) dL_law_1656 ⟨Nat.le_of_ble_eq_true rfl, Nat.le_of_ble_eq_true rfl⟩) hS (fun q _ h => hFc q h) hFc (fun r_3 u t H locs ht hvm hw hB hz1 hk1 hS => ?_)
  have hP := zkeep hP hk1
  have hw : r_3 = (-1) := hw
  subst hw
  refine lv_aload_n hx hb dL_law_1659 rfl (lv_at hl 2 rfl) ?_
  refine lv_aload_n hx hb dL_law_1660 rfl (lv_at hl 0 rfl) ?_
  refine lv_iload hx hb dL_law_1661 (lv_at hl 4 rfl) ?_
  refine lv_iconst (v := 1) hx hb dL_law_1663 (by decide) ?_
  refine lv_iadd hx hb dL_law_1664 ?_
  refine lv_topi (fun v_4 ev_4 => ?_)
  obtain rfl : v_4 = 1 := ev_4.trans (by decide)
  refine va_sld hx hb hX hbl hbA hS (by unfold vp_in; decide) dL_law_1665 ?_
  refine lv_topi (fun v_5 ev_5 => ?_)
  obtain rfl : v_5 = xs 1 := ev_5
  have hPc := hP.sub (ws' := [(mh0, .inr (11, [.int 0, .ref mq1, .int 0, .int 0, .int 0, .int 0, .ref mq2, .ref mq3, .ref mq4, .ref mq5, .ref mq6, .ref mq7, .ref mq8, .int 0, .int 0, .ref mq9, .ref mq10, .ref mq11, .ref mq12, .ref mq13, .int 0, .int 0, .ref mq14, .ref mq15, .ref mq16, .int 0, .int 0, .ref mq17, .ref mq18, .int (-1), .int 0, .ref mq19, .int 0, .long 0, .ref mq20, .int 0, .int 0, .ref mq21, .ref mq22, .ref mq23, .int 0]))]) [2] rfl
  have hDc := hD.sub (ws' := [(mh0, .inr (11, [.int 0, .ref mq1, .int 0, .int 0, .int 0, .int 0, .ref mq2, .ref mq3, .ref mq4, .ref mq5, .ref mq6, .ref mq7, .ref mq8, .int 0, .int 0, .ref mq9, .ref mq10, .ref mq11, .ref mq12, .ref mq13, .int 0, .int 0, .ref mq14, .ref mq15, .ref mq16, .int 0, .int 0, .ref mq17, .ref mq18, .int (-1), .int 0, .ref mq19, .int 0, .long 0, .ref mq20, .int 0, .int 0, .ref mq21, .ref mq22, .ref mq23, .int 0]))]) [2] (by decide) rfl
  have hFc := zfr hS hA
  refine va_calli (va_runV (As := [.int (xs 1)]) (rest := [.int (-1)]) ⟨hx, hb, hml, hown, hts⟩ (c_X11_seen l dC dI cI cJ mh0 mq1 mq2 mq3 mq4 mq5 mq6 mq7 mq8 mq9 mq10 mq11 mq12 mq13 mq14 mq15 mq16 mq17 mq18 mq19 mq20 mq21 mq22 mq23 H.size (xs 1)) (cwV 1 hts (zgV qw1733 qw1734 qw1735 qw108 qw1736) rfl rfl rfl hd_X11_seen ⟨Nat.le_of_ble_eq_true rfl, Nat.le_of_ble_eq_true rfl⟩) (zPV hPc hK hDc (va_recv hK hP (ci := 11) (q0 := 2) rfl rfl)) rfl rfl hl.1 rfl (lv_room (Nat.le_of_ble_eq_true rfl)) dL_law_1666 ⟨Nat.le_of_ble_eq_true rfl, Nat.le_of_ble_eq_true rfl⟩) hS (fun q _ h => hFc q h) hFc (fun r_6 u t H locs ht hvm hw hB hz1 hk1 hS => ?_)
  have hP := zkeep hP hk1
  have hw : r_6 = (-1) := hw
  subst hw
  refine lv_icmp_eq (tgt := 1825) hx hb dL_law_1669 (by decide) (fun _ => ?_) (fun c => absurd (by decide) c)
  exact law_end C0 hS (lv_sub hl [0, 4] rfl)
set_option maxHeartbeats 4000000 in
set_option maxRecDepth 100000 in
theorem law_case_41 {p : Program} {l : Launch} {e : Env} {s : State} {m : MethodId} {below : List Frame} {meth : Method} {c : Code} {b : Nat} {xs : Nat → Int32} {dC : Nat → ClassId} {dI : Nat → Nat → Nat} {cI cJ : ClassId} {xh0 mh0 o0 xq1 xq4 xq6 xq9 xq14 xq19 xq20 xq25 xq30 xq33 xq39 xq45 xq47 xq16 xq17 xq18 mq1 mq2 mq3 mq4 mq5 mq6 mq7 mq8 mq9 mq10 mq11 mq12 mq13 mq14 mq15 mq16 mq17 mq18 mq19 mq20 mq21 mq22 mq23 g0 : Nat} (hl0 : l.stackTraces = false) (C0 : lw_At p s m meth c b 7 xs) (hK : va_K (dC, dI) vwCl [(cI, .int), (cJ, .long)] s) (hF : zF g0 (fun q : Nat => s.heap.size ≤ q) s) (hG : zG (fun q : Nat => s.heap.size ≤ q) s) {H : Heap} {locs : List Loc} (hP : va_P (dC, dI) vwCl [(xh0, .inr (10, [.ref xq1, .ref xq4, .ref xq6, .ref xq9, .ref xq14, .ref xq19, .ref xq20, .ref xq25, .ref xq30, .ref xq33, .ref xq39, .ref xq45, .ref xq47, .int 0, .int (-1), .int 0, .int 0])), (xq14, .inr (1, [.ref xq16, .ref xq17, .ref xq18, .int 0, .int 0])), (mh0, .inr (11, [.int 0, .ref mq1, .int 0, .int 0, .int 0, .int 0, .ref mq2, .ref mq3, .ref mq4, .ref mq5, .ref mq6, .ref mq7, .ref mq8, .int 0, .int 0, .ref mq9, .ref mq10, .ref mq11, .ref mq12, .ref mq13, .int 0, .int 0, .ref mq14, .ref mq15, .ref mq16, .int 0, .int 0, .ref mq17, .ref mq18, .int (-1), .int 0, .ref mq19, .int 0, .long 0, .ref mq20, .int 0, .int 0, .ref mq21, .ref mq22, .ref mq23, .int 0]))] H) (hD : va_D (fun q : Nat => s.heap.size ≤ q) [(xh0, .inr (10, [.ref xq1, .ref xq4, .ref xq6, .ref xq9, .ref xq14, .ref xq19, .ref xq20, .ref xq25, .ref xq30, .ref xq33, .ref xq39, .ref xq45, .ref xq47, .int 0, .int (-1), .int 0, .int 0])), (xq14, .inr (1, [.ref xq16, .ref xq17, .ref xq18, .int 0, .int 0])), (mh0, .inr (11, [.int 0, .ref mq1, .int 0, .int 0, .int 0, .int 0, .ref mq2, .ref mq3, .ref mq4, .ref mq5, .ref mq6, .ref mq7, .ref mq8, .int 0, .int 0, .ref mq9, .ref mq10, .ref mq11, .ref mq12, .ref mq13, .int 0, .int 0, .ref mq14, .ref mq15, .ref mq16, .int 0, .int 0, .ref mq17, .ref mq18, .int (-1), .int 0, .ref mq19, .int 0, .long 0, .ref mq20, .int 0, .int 0, .ref mq21, .ref mq22, .ref mq23, .int 0]))]) (hS : va_S (fun q : Nat => s.heap.size ≤ q) s.heap H locs) {ls : Array Slot} (hl : lv_has ls 7 [(0, .ref b), (1, .ref xh0), (2, .ref mh0), (3, .ref o0), (4, .int 0)]) : W p l e room_1 s m #[Value.ref b] below meth c H locs 62 13545 (lw_Z below #[Value.ref b] s) (F0 m 1674 ls []) := by
  obtain ⟨hx, hb, hr, hml, hown, hts0, hX, hbl, hlocks, hgv⟩ := id C0
  have hts : ∀ w ∈ wA, w.before #[Value.ref b] s = true := fun w h => hts0 w (List.mem_filter.mp h).1
  have hown : s.vm.findClass RL = some m.cls := hown
  have hA : ∀ q : Nat, s.heap.size ≤ q → (fun q : Nat => s.heap.size ≤ q) q := fun _ h => h
  have hbA : ¬ (fun q : Nat => s.heap.size ≤ q) b := Nat.not_le.mpr hbl
  refine lv_aload_n hx hb dL_law_1674 rfl (lv_at hl 1 rfl) ?_
  refine lv_aload_n hx hb dL_law_1675 rfl (lv_at hl 0 rfl) ?_
  refine lv_iload hx hb dL_law_1676 (lv_at hl 4 rfl) ?_
  refine lv_iconst (v := 1) hx hb dL_law_1678 (by decide) ?_
  refine lv_iadd hx hb dL_law_1679 ?_
  refine lv_topi (fun v_1 ev_1 => ?_)
  obtain rfl : v_1 = 1 := ev_1.trans (by decide)
  refine va_sld hx hb hX hbl hbA hS (by unfold vp_in; decide) dL_law_1680 ?_
  refine lv_topi (fun v_2 ev_2 => ?_)
  obtain rfl : v_2 = xs 1 := ev_2
  have hPc := hP.sub (ws' := [(xh0, .inr (10, [.ref xq1, .ref xq4, .ref xq6, .ref xq9, .ref xq14, .ref xq19, .ref xq20, .ref xq25, .ref xq30, .ref xq33, .ref xq39, .ref xq45, .ref xq47, .int 0, .int (-1), .int 0, .int 0])), (xq14, .inr (1, [.ref xq16, .ref xq17, .ref xq18, .int 0, .int 0]))]) [0, 1] rfl
  have hDc := hD.sub (ws' := [(xh0, .inr (10, [.ref xq1, .ref xq4, .ref xq6, .ref xq9, .ref xq14, .ref xq19, .ref xq20, .ref xq25, .ref xq30, .ref xq33, .ref xq39, .ref xq45, .ref xq47, .int 0, .int (-1), .int 0, .int 0])), (xq14, .inr (1, [.ref xq16, .ref xq17, .ref xq18, .int 0, .int 0]))]) [0, 1] (by decide) rfl
  have hFc := zfr hS hA
  refine va_calli (va_runV (As := [.int (xs 1)]) (rest := []) ⟨hx, hb, hml, hown, hts⟩ (c_X10_saves l dC dI cI cJ xh0 xq1 xq4 xq6 xq9 xq14 xq19 xq20 xq25 xq30 xq33 xq39 xq45 xq47 xq16 xq17 xq18 H.size (xs 1)) (cwV 1 hts (zgV qw1017 qw1018 qw1019 qw98 qw1020) rfl rfl rfl hd_X10_saves ⟨Nat.le_of_ble_eq_true rfl, Nat.le_of_ble_eq_true rfl⟩) (zPV hPc hK hDc (va_recv hK hP (ci := 10) (q0 := 0) rfl rfl)) rfl rfl hl.1 rfl (lv_room (Nat.le_of_ble_eq_true rfl)) dL_law_1681 ⟨Nat.le_of_ble_eq_true rfl, Nat.le_of_ble_eq_true rfl⟩) hS (fun q _ h => hFc q h) hFc (fun r_3 u t H locs ht hvm hw hB hz1 hk1 hS => ?_)
  have hP := zkeep hP hk1
  have hw : r_3 = (-1) := hw
  subst hw
  refine lv_aload_n hx hb dL_law_1684 rfl (lv_at hl 2 rfl) ?_
  refine lv_aload_n hx hb dL_law_1685 rfl (lv_at hl 0 rfl) ?_
  refine lv_iload hx hb dL_law_1686 (lv_at hl 4 rfl) ?_
  refine lv_iconst (v := 1) hx hb dL_law_1688 (by decide) ?_
  refine lv_iadd hx hb dL_law_1689 ?_
  refine lv_topi (fun v_4 ev_4 => ?_)
  obtain rfl : v_4 = 1 := ev_4.trans (by decide)
  refine va_sld hx hb hX hbl hbA hS (by unfold vp_in; decide) dL_law_1690 ?_
  refine lv_topi (fun v_5 ev_5 => ?_)
  obtain rfl : v_5 = xs 1 := ev_5
  have hPc := hP.sub (ws' := [(mh0, .inr (11, [.int 0, .ref mq1, .int 0, .int 0, .int 0, .int 0, .ref mq2, .ref mq3, .ref mq4, .ref mq5, .ref mq6, .ref mq7, .ref mq8, .int 0, .int 0, .ref mq9, .ref mq10, .ref mq11, .ref mq12, .ref mq13, .int 0, .int 0, .ref mq14, .ref mq15, .ref mq16, .int 0, .int 0, .ref mq17, .ref mq18, .int (-1), .int 0, .ref mq19, .int 0, .long 0, .ref mq20, .int 0, .int 0, .ref mq21, .ref mq22, .ref mq23, .int 0]))]) [2] rfl
  have hDc := hD.sub (ws' := [(mh0, .inr (11, [.int 0, .ref mq1, .int 0, .int 0, .int 0, .int 0, .ref mq2, .ref mq3, .ref mq4, .ref mq5, .ref mq6, .ref mq7, .ref mq8, .int 0, .int 0, .ref mq9, .ref mq10, .ref mq11, .ref mq12, .ref mq13, .int 0, .int 0, .ref mq14, .ref mq15, .ref mq16, .int 0, .int 0, .ref mq17, .ref mq18, .int (-1), .int 0, .ref mq19, .int 0, .long 0, .ref mq20, .int 0, .int 0, .ref mq21, .ref mq22, .ref mq23, .int 0]))]) [2] (by decide) rfl
  have hFc := zfr hS hA
  refine va_calli (va_runV (As := [.int (xs 1)]) (rest := [.int (-1)]) ⟨hx, hb, hml, hown, hts⟩ (c_X11_saves l dC dI cI cJ mh0 mq1 mq2 mq3 mq4 mq5 mq6 mq7 mq8 mq9 mq10 mq11 mq12 mq13 mq14 mq15 mq16 mq17 mq18 mq19 mq20 mq21 mq22 mq23 H.size (xs 1)) (cwV 1 hts (zgV qw1737 qw1738 qw1739 qw108 qw1740) rfl rfl rfl hd_X11_saves ⟨Nat.le_of_ble_eq_true rfl, Nat.le_of_ble_eq_true rfl⟩) (zPV hPc hK hDc (va_recv hK hP (ci := 11) (q0 := 2) rfl rfl)) rfl rfl hl.1 rfl (lv_room (Nat.le_of_ble_eq_true rfl)) dL_law_1691 ⟨Nat.le_of_ble_eq_true rfl, Nat.le_of_ble_eq_true rfl⟩) hS (fun q _ h => hFc q h) hFc (fun r_6 u t H locs ht hvm hw hB hz1 hk1 hS => ?_)
  have hP := zkeep hP hk1
  have hw : r_6 = (-1) := hw
  subst hw
  refine lv_icmp_eq (tgt := 1825) hx hb dL_law_1694 (by decide) (fun _ => ?_) (fun c => absurd (by decide) c)
  exact law_end C0 hS (lv_sub hl [0, 4] rfl)
set_option maxHeartbeats 4000000 in
set_option maxRecDepth 100000 in
theorem law_case_42 {p : Program} {l : Launch} {e : Env} {s : State} {m : MethodId} {below : List Frame} {meth : Method} {c : Code} {b : Nat} {xs : Nat → Int32} {dC : Nat → ClassId} {dI : Nat → Nat → Nat} {cI cJ : ClassId} {xh0 mh0 o0 xq1 xq4 xq6 xq9 xq14 xq19 xq20 xq25 xq30 xq33 xq39 xq45 xq47 xq16 xq17 xq18 mq1 mq2 mq3 mq4 mq5 mq6 mq7 mq8 mq9 mq10 mq11 mq12 mq13 mq14 mq15 mq16 mq17 mq18 mq19 mq20 mq21 mq22 mq23 g0 : Nat} (hl0 : l.stackTraces = false) (C0 : lw_At p s m meth c b 7 xs) (hK : va_K (dC, dI) vwCl [(cI, .int), (cJ, .long)] s) (hF : zF g0 (fun q : Nat => s.heap.size ≤ q) s) (hG : zG (fun q : Nat => s.heap.size ≤ q) s) {H : Heap} {locs : List Loc} (hP : va_P (dC, dI) vwCl [(xh0, .inr (10, [.ref xq1, .ref xq4, .ref xq6, .ref xq9, .ref xq14, .ref xq19, .ref xq20, .ref xq25, .ref xq30, .ref xq33, .ref xq39, .ref xq45, .ref xq47, .int 0, .int (-1), .int 0, .int 0])), (xq14, .inr (1, [.ref xq16, .ref xq17, .ref xq18, .int 0, .int 0])), (mh0, .inr (11, [.int 0, .ref mq1, .int 0, .int 0, .int 0, .int 0, .ref mq2, .ref mq3, .ref mq4, .ref mq5, .ref mq6, .ref mq7, .ref mq8, .int 0, .int 0, .ref mq9, .ref mq10, .ref mq11, .ref mq12, .ref mq13, .int 0, .int 0, .ref mq14, .ref mq15, .ref mq16, .int 0, .int 0, .ref mq17, .ref mq18, .int (-1), .int 0, .ref mq19, .int 0, .long 0, .ref mq20, .int 0, .int 0, .ref mq21, .ref mq22, .ref mq23, .int 0]))] H) (hD : va_D (fun q : Nat => s.heap.size ≤ q) [(xh0, .inr (10, [.ref xq1, .ref xq4, .ref xq6, .ref xq9, .ref xq14, .ref xq19, .ref xq20, .ref xq25, .ref xq30, .ref xq33, .ref xq39, .ref xq45, .ref xq47, .int 0, .int (-1), .int 0, .int 0])), (xq14, .inr (1, [.ref xq16, .ref xq17, .ref xq18, .int 0, .int 0])), (mh0, .inr (11, [.int 0, .ref mq1, .int 0, .int 0, .int 0, .int 0, .ref mq2, .ref mq3, .ref mq4, .ref mq5, .ref mq6, .ref mq7, .ref mq8, .int 0, .int 0, .ref mq9, .ref mq10, .ref mq11, .ref mq12, .ref mq13, .int 0, .int 0, .ref mq14, .ref mq15, .ref mq16, .int 0, .int 0, .ref mq17, .ref mq18, .int (-1), .int 0, .ref mq19, .int 0, .long 0, .ref mq20, .int 0, .int 0, .ref mq21, .ref mq22, .ref mq23, .int 0]))]) (hS : va_S (fun q : Nat => s.heap.size ≤ q) s.heap H locs) {ls : Array Slot} (hl : lv_has ls 7 [(0, .ref b), (1, .ref xh0), (2, .ref mh0), (3, .ref o0), (4, .int 0)]) : W p l e room_1 s m #[Value.ref b] below meth c H locs 62 13545 (lw_Z below #[Value.ref b] s) (F0 m 1699 ls []) := by
  obtain ⟨hx, hb, hr, hml, hown, hts0, hX, hbl, hlocks, hgv⟩ := id C0
  have hts : ∀ w ∈ wA, w.before #[Value.ref b] s = true := fun w h => hts0 w (List.mem_filter.mp h).1
  have hown : s.vm.findClass RL = some m.cls := hown
  have hA : ∀ q : Nat, s.heap.size ≤ q → (fun q : Nat => s.heap.size ≤ q) q := fun _ h => h
  have hbA : ¬ (fun q : Nat => s.heap.size ≤ q) b := Nat.not_le.mpr hbl
  refine lv_aload_n hx hb dL_law_1699 rfl (lv_at hl 1 rfl) ?_
  refine lv_aload_n hx hb dL_law_1700 rfl (lv_at hl 0 rfl) ?_
  refine lv_iload hx hb dL_law_1701 (lv_at hl 4 rfl) ?_
  refine lv_iconst (v := 1) hx hb dL_law_1703 (by decide) ?_
  refine lv_iadd hx hb dL_law_1704 ?_
  refine lv_topi (fun v_1 ev_1 => ?_)
  obtain rfl : v_1 = 1 := ev_1.trans (by decide)
  refine va_sld hx hb hX hbl hbA hS (by unfold vp_in; decide) dL_law_1705 ?_
  refine lv_topi (fun v_2 ev_2 => ?_)
  obtain rfl : v_2 = xs 1 := ev_2
  have hPc := hP.sub (ws' := [(xh0, .inr (10, [.ref xq1, .ref xq4, .ref xq6, .ref xq9, .ref xq14, .ref xq19, .ref xq20, .ref xq25, .ref xq30, .ref xq33, .ref xq39, .ref xq45, .ref xq47, .int 0, .int (-1), .int 0, .int 0])), (xq14, .inr (1, [.ref xq16, .ref xq17, .ref xq18, .int 0, .int 0]))]) [0, 1] rfl
  have hDc := hD.sub (ws' := [(xh0, .inr (10, [.ref xq1, .ref xq4, .ref xq6, .ref xq9, .ref xq14, .ref xq19, .ref xq20, .ref xq25, .ref xq30, .ref xq33, .ref xq39, .ref xq45, .ref xq47, .int 0, .int (-1), .int 0, .int 0])), (xq14, .inr (1, [.ref xq16, .ref xq17, .ref xq18, .int 0, .int 0]))]) [0, 1] (by decide) rfl
  have hFc := zfr hS hA
  refine va_calli (va_runV (As := [.int (xs 1)]) (rest := []) ⟨hx, hb, hml, hown, hts⟩ (c_X10_rivals l dC dI cI cJ xh0 xq1 xq4 xq6 xq9 xq14 xq19 xq20 xq25 xq30 xq33 xq39 xq45 xq47 xq16 xq17 xq18 H.size (xs 1)) (cwV 1 hts (zgV qw1022 qw1023 qw1024 qw98 qw1025) rfl rfl rfl hd_X10_rivals ⟨Nat.le_of_ble_eq_true rfl, Nat.le_of_ble_eq_true rfl⟩) (zPV hPc hK hDc (va_recv hK hP (ci := 10) (q0 := 0) rfl rfl)) rfl rfl hl.1 rfl (lv_room (Nat.le_of_ble_eq_true rfl)) dL_law_1706 ⟨Nat.le_of_ble_eq_true rfl, Nat.le_of_ble_eq_true rfl⟩) hS (fun q _ h => hFc q h) hFc (fun r_3 u t H locs ht hvm hw hB hz1 hk1 hS => ?_)
  have hP := zkeep hP hk1
  have hw : r_3 = (-1) := hw
  subst hw
  refine lv_aload_n hx hb dL_law_1709 rfl (lv_at hl 2 rfl) ?_
  refine lv_aload_n hx hb dL_law_1710 rfl (lv_at hl 0 rfl) ?_
  refine lv_iload hx hb dL_law_1711 (lv_at hl 4 rfl) ?_
  refine lv_iconst (v := 1) hx hb dL_law_1713 (by decide) ?_
  refine lv_iadd hx hb dL_law_1714 ?_
  refine lv_topi (fun v_4 ev_4 => ?_)
  obtain rfl : v_4 = 1 := ev_4.trans (by decide)
  refine va_sld hx hb hX hbl hbA hS (by unfold vp_in; decide) dL_law_1715 ?_
  refine lv_topi (fun v_5 ev_5 => ?_)
  obtain rfl : v_5 = xs 1 := ev_5
  have hPc := hP.sub (ws' := [(mh0, .inr (11, [.int 0, .ref mq1, .int 0, .int 0, .int 0, .int 0, .ref mq2, .ref mq3, .ref mq4, .ref mq5, .ref mq6, .ref mq7, .ref mq8, .int 0, .int 0, .ref mq9, .ref mq10, .ref mq11, .ref mq12, .ref mq13, .int 0, .int 0, .ref mq14, .ref mq15, .ref mq16, .int 0, .int 0, .ref mq17, .ref mq18, .int (-1), .int 0, .ref mq19, .int 0, .long 0, .ref mq20, .int 0, .int 0, .ref mq21, .ref mq22, .ref mq23, .int 0]))]) [2] rfl
  have hDc := hD.sub (ws' := [(mh0, .inr (11, [.int 0, .ref mq1, .int 0, .int 0, .int 0, .int 0, .ref mq2, .ref mq3, .ref mq4, .ref mq5, .ref mq6, .ref mq7, .ref mq8, .int 0, .int 0, .ref mq9, .ref mq10, .ref mq11, .ref mq12, .ref mq13, .int 0, .int 0, .ref mq14, .ref mq15, .ref mq16, .int 0, .int 0, .ref mq17, .ref mq18, .int (-1), .int 0, .ref mq19, .int 0, .long 0, .ref mq20, .int 0, .int 0, .ref mq21, .ref mq22, .ref mq23, .int 0]))]) [2] (by decide) rfl
  have hFc := zfr hS hA
  refine va_calli (va_runV (As := [.int (xs 1)]) (rest := [.int (-1)]) ⟨hx, hb, hml, hown, hts⟩ (c_X11_rivals l dC dI cI cJ mh0 mq1 mq2 mq3 mq4 mq5 mq6 mq7 mq8 mq9 mq10 mq11 mq12 mq13 mq14 mq15 mq16 mq17 mq18 mq19 mq20 mq21 mq22 mq23 H.size (xs 1)) (cwV 1 hts (zgV qw1741 qw1742 qw1743 qw108 qw1744) rfl rfl rfl hd_X11_rivals ⟨Nat.le_of_ble_eq_true rfl, Nat.le_of_ble_eq_true rfl⟩) (zPV hPc hK hDc (va_recv hK hP (ci := 11) (q0 := 2) rfl rfl)) rfl rfl hl.1 rfl (lv_room (Nat.le_of_ble_eq_true rfl)) dL_law_1716 ⟨Nat.le_of_ble_eq_true rfl, Nat.le_of_ble_eq_true rfl⟩) hS (fun q _ h => hFc q h) hFc (fun r_6 u t H locs ht hvm hw hB hz1 hk1 hS => ?_)
  have hP := zkeep hP hk1
  have hw : r_6 = (-1) := hw
  subst hw
  refine lv_icmp_eq (tgt := 1825) hx hb dL_law_1719 (by decide) (fun _ => ?_) (fun c => absurd (by decide) c)
  exact law_end C0 hS (lv_sub hl [0, 4] rfl)
set_option maxHeartbeats 4000000 in
set_option maxRecDepth 100000 in
theorem law_case_43 {p : Program} {l : Launch} {e : Env} {s : State} {m : MethodId} {below : List Frame} {meth : Method} {c : Code} {b : Nat} {xs : Nat → Int32} {dC : Nat → ClassId} {dI : Nat → Nat → Nat} {cI cJ : ClassId} {xh0 mh0 o0 xq1 xq4 xq6 xq9 xq14 xq19 xq20 xq25 xq30 xq33 xq39 xq45 xq47 xq16 xq17 xq18 mq1 mq2 mq3 mq4 mq5 mq6 mq7 mq8 mq9 mq10 mq11 mq12 mq13 mq14 mq15 mq16 mq17 mq18 mq19 mq20 mq21 mq22 mq23 g0 : Nat} (hl0 : l.stackTraces = false) (C0 : lw_At p s m meth c b 7 xs) (hK : va_K (dC, dI) vwCl [(cI, .int), (cJ, .long)] s) (hF : zF g0 (fun q : Nat => s.heap.size ≤ q) s) (hG : zG (fun q : Nat => s.heap.size ≤ q) s) {H : Heap} {locs : List Loc} (hP : va_P (dC, dI) vwCl [(xh0, .inr (10, [.ref xq1, .ref xq4, .ref xq6, .ref xq9, .ref xq14, .ref xq19, .ref xq20, .ref xq25, .ref xq30, .ref xq33, .ref xq39, .ref xq45, .ref xq47, .int 0, .int (-1), .int 0, .int 0])), (xq14, .inr (1, [.ref xq16, .ref xq17, .ref xq18, .int 0, .int 0])), (mh0, .inr (11, [.int 0, .ref mq1, .int 0, .int 0, .int 0, .int 0, .ref mq2, .ref mq3, .ref mq4, .ref mq5, .ref mq6, .ref mq7, .ref mq8, .int 0, .int 0, .ref mq9, .ref mq10, .ref mq11, .ref mq12, .ref mq13, .int 0, .int 0, .ref mq14, .ref mq15, .ref mq16, .int 0, .int 0, .ref mq17, .ref mq18, .int (-1), .int 0, .ref mq19, .int 0, .long 0, .ref mq20, .int 0, .int 0, .ref mq21, .ref mq22, .ref mq23, .int 0]))] H) (hD : va_D (fun q : Nat => s.heap.size ≤ q) [(xh0, .inr (10, [.ref xq1, .ref xq4, .ref xq6, .ref xq9, .ref xq14, .ref xq19, .ref xq20, .ref xq25, .ref xq30, .ref xq33, .ref xq39, .ref xq45, .ref xq47, .int 0, .int (-1), .int 0, .int 0])), (xq14, .inr (1, [.ref xq16, .ref xq17, .ref xq18, .int 0, .int 0])), (mh0, .inr (11, [.int 0, .ref mq1, .int 0, .int 0, .int 0, .int 0, .ref mq2, .ref mq3, .ref mq4, .ref mq5, .ref mq6, .ref mq7, .ref mq8, .int 0, .int 0, .ref mq9, .ref mq10, .ref mq11, .ref mq12, .ref mq13, .int 0, .int 0, .ref mq14, .ref mq15, .ref mq16, .int 0, .int 0, .ref mq17, .ref mq18, .int (-1), .int 0, .ref mq19, .int 0, .long 0, .ref mq20, .int 0, .int 0, .ref mq21, .ref mq22, .ref mq23, .int 0]))]) (hS : va_S (fun q : Nat => s.heap.size ≤ q) s.heap H locs) {ls : Array Slot} (hl : lv_has ls 7 [(0, .ref b), (1, .ref xh0), (2, .ref mh0), (3, .ref o0), (4, .int 0)]) : W p l e room_1 s m #[Value.ref b] below meth c H locs 62 13545 (lw_Z below #[Value.ref b] s) (F0 m 1724 ls []) := by
  obtain ⟨hx, hb, hr, hml, hown, hts0, hX, hbl, hlocks, hgv⟩ := id C0
  have hts : ∀ w ∈ wA, w.before #[Value.ref b] s = true := fun w h => hts0 w (List.mem_filter.mp h).1
  have hown : s.vm.findClass RL = some m.cls := hown
  have hA : ∀ q : Nat, s.heap.size ≤ q → (fun q : Nat => s.heap.size ≤ q) q := fun _ h => h
  have hbA : ¬ (fun q : Nat => s.heap.size ≤ q) b := Nat.not_le.mpr hbl
  refine lv_aload_n hx hb dL_law_1724 rfl (lv_at hl 1 rfl) ?_
  refine lv_aload_n hx hb dL_law_1725 rfl (lv_at hl 0 rfl) ?_
  refine lv_iload hx hb dL_law_1726 (lv_at hl 4 rfl) ?_
  refine lv_iconst (v := 1) hx hb dL_law_1728 (by decide) ?_
  refine lv_iadd hx hb dL_law_1729 ?_
  refine lv_topi (fun v_1 ev_1 => ?_)
  obtain rfl : v_1 = 1 := ev_1.trans (by decide)
  refine va_sld hx hb hX hbl hbA hS (by unfold vp_in; decide) dL_law_1730 ?_
  refine lv_topi (fun v_2 ev_2 => ?_)
  obtain rfl : v_2 = xs 1 := ev_2
  have hPc := hP.sub (ws' := [(xh0, .inr (10, [.ref xq1, .ref xq4, .ref xq6, .ref xq9, .ref xq14, .ref xq19, .ref xq20, .ref xq25, .ref xq30, .ref xq33, .ref xq39, .ref xq45, .ref xq47, .int 0, .int (-1), .int 0, .int 0])), (xq14, .inr (1, [.ref xq16, .ref xq17, .ref xq18, .int 0, .int 0]))]) [0, 1] rfl
  have hDc := hD.sub (ws' := [(xh0, .inr (10, [.ref xq1, .ref xq4, .ref xq6, .ref xq9, .ref xq14, .ref xq19, .ref xq20, .ref xq25, .ref xq30, .ref xq33, .ref xq39, .ref xq45, .ref xq47, .int 0, .int (-1), .int 0, .int 0])), (xq14, .inr (1, [.ref xq16, .ref xq17, .ref xq18, .int 0, .int 0]))]) [0, 1] (by decide) rfl
  have hFc := zfr hS hA
  refine va_calli (va_runV (As := [.int (xs 1)]) (rest := []) ⟨hx, hb, hml, hown, hts⟩ (c_X10_affords l dC dI cI cJ xh0 xq1 xq4 xq6 xq9 xq14 xq19 xq20 xq25 xq30 xq33 xq39 xq45 xq47 xq16 xq17 xq18 H.size (xs 1)) (cwV 1 hts (zgV qw1026 qw1027 qw1028 qw98 qw1029) rfl rfl rfl hd_X10_affords ⟨Nat.le_of_ble_eq_true rfl, Nat.le_of_ble_eq_true rfl⟩) (zPV hPc hK hDc (va_recv hK hP (ci := 10) (q0 := 0) rfl rfl)) rfl rfl hl.1 rfl (lv_room (Nat.le_of_ble_eq_true rfl)) dL_law_1731 ⟨Nat.le_of_ble_eq_true rfl, Nat.le_of_ble_eq_true rfl⟩) hS (fun q _ h => hFc q h) hFc (fun r_3 u t H locs ht hvm hw hB hz1 hk1 hS => ?_)
  have hP := zkeep hP hk1
  have hw : r_3 = (-1) := hw
  subst hw
  refine lv_aload_n hx hb dL_law_1734 rfl (lv_at hl 2 rfl) ?_
  refine lv_aload_n hx hb dL_law_1735 rfl (lv_at hl 0 rfl) ?_
  refine lv_iload hx hb dL_law_1736 (lv_at hl 4 rfl) ?_
  refine lv_iconst (v := 1) hx hb dL_law_1738 (by decide) ?_
  refine lv_iadd hx hb dL_law_1739 ?_
  refine lv_topi (fun v_4 ev_4 => ?_)
  obtain rfl : v_4 = 1 := ev_4.trans (by decide)
  refine va_sld hx hb hX hbl hbA hS (by unfold vp_in; decide) dL_law_1740 ?_
  refine lv_topi (fun v_5 ev_5 => ?_)
  obtain rfl : v_5 = xs 1 := ev_5
  have hPc := hP.sub (ws' := [(mh0, .inr (11, [.int 0, .ref mq1, .int 0, .int 0, .int 0, .int 0, .ref mq2, .ref mq3, .ref mq4, .ref mq5, .ref mq6, .ref mq7, .ref mq8, .int 0, .int 0, .ref mq9, .ref mq10, .ref mq11, .ref mq12, .ref mq13, .int 0, .int 0, .ref mq14, .ref mq15, .ref mq16, .int 0, .int 0, .ref mq17, .ref mq18, .int (-1), .int 0, .ref mq19, .int 0, .long 0, .ref mq20, .int 0, .int 0, .ref mq21, .ref mq22, .ref mq23, .int 0]))]) [2] rfl
  have hDc := hD.sub (ws' := [(mh0, .inr (11, [.int 0, .ref mq1, .int 0, .int 0, .int 0, .int 0, .ref mq2, .ref mq3, .ref mq4, .ref mq5, .ref mq6, .ref mq7, .ref mq8, .int 0, .int 0, .ref mq9, .ref mq10, .ref mq11, .ref mq12, .ref mq13, .int 0, .int 0, .ref mq14, .ref mq15, .ref mq16, .int 0, .int 0, .ref mq17, .ref mq18, .int (-1), .int 0, .ref mq19, .int 0, .long 0, .ref mq20, .int 0, .int 0, .ref mq21, .ref mq22, .ref mq23, .int 0]))]) [2] (by decide) rfl
  have hFc := zfr hS hA
  refine va_calli (va_runV (As := [.int (xs 1)]) (rest := [.int (-1)]) ⟨hx, hb, hml, hown, hts⟩ (c_X11_affords l dC dI cI cJ mh0 mq1 mq2 mq3 mq4 mq5 mq6 mq7 mq8 mq9 mq10 mq11 mq12 mq13 mq14 mq15 mq16 mq17 mq18 mq19 mq20 mq21 mq22 mq23 H.size (xs 1)) (cwV 1 hts (zgV qw1745 qw1746 qw1747 qw108 qw1748) rfl rfl rfl hd_X11_affords ⟨Nat.le_of_ble_eq_true rfl, Nat.le_of_ble_eq_true rfl⟩) (zPV hPc hK hDc (va_recv hK hP (ci := 11) (q0 := 2) rfl rfl)) rfl rfl hl.1 rfl (lv_room (Nat.le_of_ble_eq_true rfl)) dL_law_1741 ⟨Nat.le_of_ble_eq_true rfl, Nat.le_of_ble_eq_true rfl⟩) hS (fun q _ h => hFc q h) hFc (fun r_6 u t H locs ht hvm hw hB hz1 hk1 hS => ?_)
  have hP := zkeep hP hk1
  have hw : r_6 = (-1) := hw
  subst hw
  refine lv_icmp_eq (tgt := 1825) hx hb dL_law_1744 (by decide) (fun _ => ?_) (fun c => absurd (by decide) c)
  exact law_end C0 hS (lv_sub hl [0, 4] rfl)
set_option maxHeartbeats 4000000 in
set_option maxRecDepth 100000 in
theorem law_case_44 {p : Program} {l : Launch} {e : Env} {s : State} {m : MethodId} {below : List Frame} {meth : Method} {c : Code} {b : Nat} {xs : Nat → Int32} {dC : Nat → ClassId} {dI : Nat → Nat → Nat} {cI cJ : ClassId} {xh0 mh0 o0 xq1 xq4 xq6 xq9 xq14 xq19 xq20 xq25 xq30 xq33 xq39 xq45 xq47 xq16 xq17 xq18 mq1 mq2 mq3 mq4 mq5 mq6 mq7 mq8 mq9 mq10 mq11 mq12 mq13 mq14 mq15 mq16 mq17 mq18 mq19 mq20 mq21 mq22 mq23 g0 : Nat} (hl0 : l.stackTraces = false) (C0 : lw_At p s m meth c b 7 xs) (hK : va_K (dC, dI) vwCl [(cI, .int), (cJ, .long)] s) (hF : zF g0 (fun q : Nat => s.heap.size ≤ q) s) (hG : zG (fun q : Nat => s.heap.size ≤ q) s) {H : Heap} {locs : List Loc} (hP : va_P (dC, dI) vwCl [(xh0, .inr (10, [.ref xq1, .ref xq4, .ref xq6, .ref xq9, .ref xq14, .ref xq19, .ref xq20, .ref xq25, .ref xq30, .ref xq33, .ref xq39, .ref xq45, .ref xq47, .int 0, .int (-1), .int 0, .int 0])), (xq14, .inr (1, [.ref xq16, .ref xq17, .ref xq18, .int 0, .int 0])), (mh0, .inr (11, [.int 0, .ref mq1, .int 0, .int 0, .int 0, .int 0, .ref mq2, .ref mq3, .ref mq4, .ref mq5, .ref mq6, .ref mq7, .ref mq8, .int 0, .int 0, .ref mq9, .ref mq10, .ref mq11, .ref mq12, .ref mq13, .int 0, .int 0, .ref mq14, .ref mq15, .ref mq16, .int 0, .int 0, .ref mq17, .ref mq18, .int (-1), .int 0, .ref mq19, .int 0, .long 0, .ref mq20, .int 0, .int 0, .ref mq21, .ref mq22, .ref mq23, .int 0])), (mq17, .inl (cI, 97, .inl (fun _ => 0)))] H) (hD : va_D (fun q : Nat => s.heap.size ≤ q) [(xh0, .inr (10, [.ref xq1, .ref xq4, .ref xq6, .ref xq9, .ref xq14, .ref xq19, .ref xq20, .ref xq25, .ref xq30, .ref xq33, .ref xq39, .ref xq45, .ref xq47, .int 0, .int (-1), .int 0, .int 0])), (xq14, .inr (1, [.ref xq16, .ref xq17, .ref xq18, .int 0, .int 0])), (mh0, .inr (11, [.int 0, .ref mq1, .int 0, .int 0, .int 0, .int 0, .ref mq2, .ref mq3, .ref mq4, .ref mq5, .ref mq6, .ref mq7, .ref mq8, .int 0, .int 0, .ref mq9, .ref mq10, .ref mq11, .ref mq12, .ref mq13, .int 0, .int 0, .ref mq14, .ref mq15, .ref mq16, .int 0, .int 0, .ref mq17, .ref mq18, .int (-1), .int 0, .ref mq19, .int 0, .long 0, .ref mq20, .int 0, .int 0, .ref mq21, .ref mq22, .ref mq23, .int 0])), (mq17, .inl (cI, 97, .inl (fun _ => 0)))]) (hS : va_S (fun q : Nat => s.heap.size ≤ q) s.heap H locs) {ls : Array Slot} (hl : lv_has ls 7 [(0, .ref b), (1, .ref xh0), (2, .ref mh0), (3, .ref o0), (4, .int 0)]) : W p l e room_1 s m #[Value.ref b] below meth c H locs 62 13545 (lw_Z below #[Value.ref b] s) (F0 m 1749 ls []) := by
  obtain ⟨hx, hb, hr, hml, hown, hts0, hX, hbl, hlocks, hgv⟩ := id C0
  have hts : ∀ w ∈ wA, w.before #[Value.ref b] s = true := fun w h => hts0 w (List.mem_filter.mp h).1
  have hown : s.vm.findClass RL = some m.cls := hown
  have hA : ∀ q : Nat, s.heap.size ≤ q → (fun q : Nat => s.heap.size ≤ q) q := fun _ h => h
  have hbA : ¬ (fun q : Nat => s.heap.size ≤ q) b := Nat.not_le.mpr hbl
  refine lv_aload_n hx hb dL_law_1749 rfl (lv_at hl 1 rfl) ?_
  refine lv_aload_n hx hb dL_law_1750 rfl (lv_at hl 0 rfl) ?_
  refine lv_iload hx hb dL_law_1751 (lv_at hl 4 rfl) ?_
  refine lv_iconst (v := 1) hx hb dL_law_1753 (by decide) ?_
  refine lv_iadd hx hb dL_law_1754 ?_
  refine lv_topi (fun v_1 ev_1 => ?_)
  obtain rfl : v_1 = 1 := ev_1.trans (by decide)
  refine va_sld hx hb hX hbl hbA hS (by unfold vp_in; decide) dL_law_1755 ?_
  refine lv_topi (fun v_2 ev_2 => ?_)
  obtain rfl : v_2 = xs 1 := ev_2
  have hPc := hP.sub (ws' := [(xh0, .inr (10, [.ref xq1, .ref xq4, .ref xq6, .ref xq9, .ref xq14, .ref xq19, .ref xq20, .ref xq25, .ref xq30, .ref xq33, .ref xq39, .ref xq45, .ref xq47, .int 0, .int (-1), .int 0, .int 0])), (xq14, .inr (1, [.ref xq16, .ref xq17, .ref xq18, .int 0, .int 0]))]) [0, 1] rfl
  have hDc := hD.sub (ws' := [(xh0, .inr (10, [.ref xq1, .ref xq4, .ref xq6, .ref xq9, .ref xq14, .ref xq19, .ref xq20, .ref xq25, .ref xq30, .ref xq33, .ref xq39, .ref xq45, .ref xq47, .int 0, .int (-1), .int 0, .int 0])), (xq14, .inr (1, [.ref xq16, .ref xq17, .ref xq18, .int 0, .int 0]))]) [0, 1] (by decide) rfl
  have hFc := zfr hS hA
  refine va_calli (va_runV (As := [.int (xs 1)]) (rest := []) ⟨hx, hb, hml, hown, hts⟩ (c_X10_told l dC dI cI cJ xh0 xq1 xq4 xq6 xq9 xq14 xq19 xq20 xq25 xq30 xq33 xq39 xq45 xq47 xq16 xq17 xq18 H.size (xs 1)) (cwV 1 hts (zgV qw1030 qw1031 qw1032 qw98 qw1033) rfl rfl rfl hd_X10_told ⟨Nat.le_of_ble_eq_true rfl, Nat.le_of_ble_eq_true rfl⟩) (zPV hPc hK hDc (va_recv hK hP (ci := 10) (q0 := 0) rfl rfl)) rfl rfl hl.1 rfl (lv_room (Nat.le_of_ble_eq_true rfl)) dL_law_1756 ⟨Nat.le_of_ble_eq_true rfl, Nat.le_of_ble_eq_true rfl⟩) hS (fun q _ h => hFc q h) hFc (fun r_3 u t H locs ht hvm hw hB hz1 hk1 hS => ?_)
  have hP := zkeep hP hk1
  have hw : r_3 = (-1000000) := hw
  subst hw
  refine lv_aload_n hx hb dL_law_1759 rfl (lv_at hl 2 rfl) ?_
  refine lv_aload_n hx hb dL_law_1760 rfl (lv_at hl 0 rfl) ?_
  refine lv_iload hx hb dL_law_1761 (lv_at hl 4 rfl) ?_
  refine lv_iconst (v := 1) hx hb dL_law_1763 (by decide) ?_
  refine lv_iadd hx hb dL_law_1764 ?_
  refine lv_topi (fun v_4 ev_4 => ?_)
  obtain rfl : v_4 = 1 := ev_4.trans (by decide)
  refine va_sld hx hb hX hbl hbA hS (by unfold vp_in; decide) dL_law_1765 ?_
  refine lv_topi (fun v_5 ev_5 => ?_)
  obtain rfl : v_5 = xs 1 := ev_5
  have hPc := hP.sub (ws' := [(mh0, .inr (11, [.int 0, .ref mq1, .int 0, .int 0, .int 0, .int 0, .ref mq2, .ref mq3, .ref mq4, .ref mq5, .ref mq6, .ref mq7, .ref mq8, .int 0, .int 0, .ref mq9, .ref mq10, .ref mq11, .ref mq12, .ref mq13, .int 0, .int 0, .ref mq14, .ref mq15, .ref mq16, .int 0, .int 0, .ref mq17, .ref mq18, .int (-1), .int 0, .ref mq19, .int 0, .long 0, .ref mq20, .int 0, .int 0, .ref mq21, .ref mq22, .ref mq23, .int 0])), (mq17, .inl (cI, 97, .inl (fun _ => 0)))]) [2, 3] rfl
  have hDc := hD.sub (ws' := [(mh0, .inr (11, [.int 0, .ref mq1, .int 0, .int 0, .int 0, .int 0, .ref mq2, .ref mq3, .ref mq4, .ref mq5, .ref mq6, .ref mq7, .ref mq8, .int 0, .int 0, .ref mq9, .ref mq10, .ref mq11, .ref mq12, .ref mq13, .int 0, .int 0, .ref mq14, .ref mq15, .ref mq16, .int 0, .int 0, .ref mq17, .ref mq18, .int (-1), .int 0, .ref mq19, .int 0, .long 0, .ref mq20, .int 0, .int 0, .ref mq21, .ref mq22, .ref mq23, .int 0])), (mq17, .inl (cI, 97, .inl (fun _ => 0)))]) [2, 3] (by decide) rfl
  have hFc := zfr hS hA
  refine va_calli (va_runV (As := [.int (xs 1)]) (rest := [.int (-1000000)]) ⟨hx, hb, hml, hown, hts⟩ (c_X11_told l dC dI cI cJ mh0 mq1 mq2 mq3 mq4 mq5 mq6 mq7 mq8 mq9 mq10 mq11 mq12 mq13 mq14 mq15 mq16 mq17 mq18 mq19 mq20 mq21 mq22 mq23 H.size (xs 1)) (cwV 1 hts (zgV qw1749 qw1750 qw1751 qw108 qw1752) rfl rfl rfl hd_X11_told ⟨Nat.le_of_ble_eq_true rfl, Nat.le_of_ble_eq_true rfl⟩) (zPV hPc hK hDc (va_recv hK hP (ci := 11) (q0 := 2) rfl rfl)) rfl rfl hl.1 rfl (lv_room (Nat.le_of_ble_eq_true rfl)) dL_law_1766 ⟨Nat.le_of_ble_eq_true rfl, Nat.le_of_ble_eq_true rfl⟩) hS (fun q _ h => hFc q h) hFc (fun r_6 u t H locs ht hvm hw hB hz1 hk1 hS => ?_)
  have hP := zkeep hP hk1
  have hw : r_6 = (-1000000) := hw
  subst hw
  refine lv_icmp_eq (tgt := 1825) hx hb dL_law_1769 (by decide) (fun _ => ?_) (fun c => absurd (by decide) c)
  exact law_end C0 hS (lv_sub hl [0, 4] rfl)
set_option maxHeartbeats 4000000 in
set_option maxRecDepth 100000 in
theorem law_case_45 {p : Program} {l : Launch} {e : Env} {s : State} {m : MethodId} {below : List Frame} {meth : Method} {c : Code} {b : Nat} {xs : Nat → Int32} {dC : Nat → ClassId} {dI : Nat → Nat → Nat} {cI cJ : ClassId} {xh0 mh0 o0 xq1 xq4 xq6 xq9 xq14 xq19 xq20 xq25 xq30 xq33 xq39 xq45 xq47 xq16 xq17 xq18 mq1 mq2 mq3 mq4 mq5 mq6 mq7 mq8 mq9 mq10 mq11 mq12 mq13 mq14 mq15 mq16 mq17 mq18 mq19 mq20 mq21 mq22 mq23 g0 : Nat} (hl0 : l.stackTraces = false) (C0 : lw_At p s m meth c b 7 xs) (hK : va_K (dC, dI) vwCl [(cI, .int), (cJ, .long)] s) (hF : zF g0 (fun q : Nat => s.heap.size ≤ q) s) (hG : zG (fun q : Nat => s.heap.size ≤ q) s) {H : Heap} {locs : List Loc} (hP : va_P (dC, dI) vwCl [(xh0, .inr (10, [.ref xq1, .ref xq4, .ref xq6, .ref xq9, .ref xq14, .ref xq19, .ref xq20, .ref xq25, .ref xq30, .ref xq33, .ref xq39, .ref xq45, .ref xq47, .int 0, .int (-1), .int 0, .int 0])), (xq14, .inr (1, [.ref xq16, .ref xq17, .ref xq18, .int 0, .int 0])), (mh0, .inr (11, [.int 0, .ref mq1, .int 0, .int 0, .int 0, .int 0, .ref mq2, .ref mq3, .ref mq4, .ref mq5, .ref mq6, .ref mq7, .ref mq8, .int 0, .int 0, .ref mq9, .ref mq10, .ref mq11, .ref mq12, .ref mq13, .int 0, .int 0, .ref mq14, .ref mq15, .ref mq16, .int 0, .int 0, .ref mq17, .ref mq18, .int (-1), .int 0, .ref mq19, .int 0, .long 0, .ref mq20, .int 0, .int 0, .ref mq21, .ref mq22, .ref mq23, .int 0]))] H) (hD : va_D (fun q : Nat => s.heap.size ≤ q) [(xh0, .inr (10, [.ref xq1, .ref xq4, .ref xq6, .ref xq9, .ref xq14, .ref xq19, .ref xq20, .ref xq25, .ref xq30, .ref xq33, .ref xq39, .ref xq45, .ref xq47, .int 0, .int (-1), .int 0, .int 0])), (xq14, .inr (1, [.ref xq16, .ref xq17, .ref xq18, .int 0, .int 0])), (mh0, .inr (11, [.int 0, .ref mq1, .int 0, .int 0, .int 0, .int 0, .ref mq2, .ref mq3, .ref mq4, .ref mq5, .ref mq6, .ref mq7, .ref mq8, .int 0, .int 0, .ref mq9, .ref mq10, .ref mq11, .ref mq12, .ref mq13, .int 0, .int 0, .ref mq14, .ref mq15, .ref mq16, .int 0, .int 0, .ref mq17, .ref mq18, .int (-1), .int 0, .ref mq19, .int 0, .long 0, .ref mq20, .int 0, .int 0, .ref mq21, .ref mq22, .ref mq23, .int 0]))]) (hS : va_S (fun q : Nat => s.heap.size ≤ q) s.heap H locs) {ls : Array Slot} (hl : lv_has ls 7 [(0, .ref b), (1, .ref xh0), (2, .ref mh0), (3, .ref o0), (4, .int 0)]) : W p l e room_1 s m #[Value.ref b] below meth c H locs 62 13545 (lw_Z below #[Value.ref b] s) (F0 m 1774 ls []) := by
  obtain ⟨hx, hb, hr, hml, hown, hts0, hX, hbl, hlocks, hgv⟩ := id C0
  have hts : ∀ w ∈ wA, w.before #[Value.ref b] s = true := fun w h => hts0 w (List.mem_filter.mp h).1
  have hown : s.vm.findClass RL = some m.cls := hown
  have hA : ∀ q : Nat, s.heap.size ≤ q → (fun q : Nat => s.heap.size ≤ q) q := fun _ h => h
  have hbA : ¬ (fun q : Nat => s.heap.size ≤ q) b := Nat.not_le.mpr hbl
  refine lv_aload_n hx hb dL_law_1774 rfl (lv_at hl 1 rfl) ?_
  have hPc := hP.sub (ws' := [(xh0, .inr (10, [.ref xq1, .ref xq4, .ref xq6, .ref xq9, .ref xq14, .ref xq19, .ref xq20, .ref xq25, .ref xq30, .ref xq33, .ref xq39, .ref xq45, .ref xq47, .int 0, .int (-1), .int 0, .int 0])), (xq14, .inr (1, [.ref xq16, .ref xq17, .ref xq18, .int 0, .int 0]))]) [0, 1] rfl
  have hDc := hD.sub (ws' := [(xh0, .inr (10, [.ref xq1, .ref xq4, .ref xq6, .ref xq9, .ref xq14, .ref xq19, .ref xq20, .ref xq25, .ref xq30, .ref xq33, .ref xq39, .ref xq45, .ref xq47, .int 0, .int (-1), .int 0, .int 0])), (xq14, .inr (1, [.ref xq16, .ref xq17, .ref xq18, .int 0, .int 0]))]) [0, 1] (by decide) rfl
  have hFc := zfr hS hA
  refine va_calli (va_runV (As := []) (rest := []) ⟨hx, hb, hml, hown, hts⟩ (c_X10_image l dC dI cI cJ xh0 xq1 xq4 xq6 xq9 xq14 xq19 xq20 xq25 xq30 xq33 xq39 xq45 xq47 xq16 xq17 xq18 H.size) (cwV 0 hts (zgV qw1035 qw1036 qw1037 qw98 qw1038) rfl rfl rfl hd_X10_image ⟨Nat.le_of_ble_eq_true rfl, Nat.le_of_ble_eq_true rfl⟩) (zPV hPc hK hDc (va_recv hK hP (ci := 10) (q0 := 0) rfl rfl)) rfl rfl hl.1 rfl (lv_room (Nat.le_of_ble_eq_true rfl)) dL_law_1775 ⟨Nat.le_of_ble_eq_true rfl, Nat.le_of_ble_eq_true rfl⟩) hS (fun q _ h => hFc q h) hFc (fun r_1 u t H locs ht hvm hw hB hz1 hk1 hS => ?_)
  have hP := zkeep hP hk1
  have hw : r_1 = (-1) := hw
  subst hw
  refine lv_aload_n hx hb dL_law_1778 rfl (lv_at hl 2 rfl) ?_
  have hPc := hP.sub (ws' := [(mh0, .inr (11, [.int 0, .ref mq1, .int 0, .int 0, .int 0, .int 0, .ref mq2, .ref mq3, .ref mq4, .ref mq5, .ref mq6, .ref mq7, .ref mq8, .int 0, .int 0, .ref mq9, .ref mq10, .ref mq11, .ref mq12, .ref mq13, .int 0, .int 0, .ref mq14, .ref mq15, .ref mq16, .int 0, .int 0, .ref mq17, .ref mq18, .int (-1), .int 0, .ref mq19, .int 0, .long 0, .ref mq20, .int 0, .int 0, .ref mq21, .ref mq22, .ref mq23, .int 0]))]) [2] rfl
  have hDc := hD.sub (ws' := [(mh0, .inr (11, [.int 0, .ref mq1, .int 0, .int 0, .int 0, .int 0, .ref mq2, .ref mq3, .ref mq4, .ref mq5, .ref mq6, .ref mq7, .ref mq8, .int 0, .int 0, .ref mq9, .ref mq10, .ref mq11, .ref mq12, .ref mq13, .int 0, .int 0, .ref mq14, .ref mq15, .ref mq16, .int 0, .int 0, .ref mq17, .ref mq18, .int (-1), .int 0, .ref mq19, .int 0, .long 0, .ref mq20, .int 0, .int 0, .ref mq21, .ref mq22, .ref mq23, .int 0]))]) [2] (by decide) rfl
  have hFc := zfr hS hA
  refine va_calli (va_runV (As := []) (rest := [.int (-1)]) ⟨hx, hb, hml, hown, hts⟩ (c_X11_image l dC dI cI cJ mh0 mq1 mq2 mq3 mq4 mq5 mq6 mq7 mq8 mq9 mq10 mq11 mq12 mq13 mq14 mq15 mq16 mq17 mq18 mq19 mq20 mq21 mq22 mq23 H.size) (cwV 0 hts (zgV qw1753 qw1754 qw1755 qw108 qw1756) rfl rfl rfl hd_X11_image ⟨Nat.le_of_ble_eq_true rfl, Nat.le_of_ble_eq_true rfl⟩) (zPV hPc hK hDc (va_recv hK hP (ci := 11) (q0 := 2) rfl rfl)) rfl rfl hl.1 rfl (lv_room (Nat.le_of_ble_eq_true rfl)) dL_law_1779 ⟨Nat.le_of_ble_eq_true rfl, Nat.le_of_ble_eq_true rfl⟩) hS (fun q _ h => hFc q h) hFc (fun r_2 u t H locs ht hvm hw hB hz1 hk1 hS => ?_)
  have hP := zkeep hP hk1
  have hw : r_2 = (-1) := hw
  subst hw
  refine lv_icmp_eq (tgt := 1825) hx hb dL_law_1782 (by decide) (fun _ => ?_) (fun c => absurd (by decide) c)
  exact law_end C0 hS (lv_sub hl [0, 4] rfl)
set_option maxHeartbeats 4000000 in
set_option maxRecDepth 100000 in
theorem law_case_46 {p : Program} {l : Launch} {e : Env} {s : State} {m : MethodId} {below : List Frame} {meth : Method} {c : Code} {b : Nat} {xs : Nat → Int32} {dC : Nat → ClassId} {dI : Nat → Nat → Nat} {cI cJ : ClassId} {xh0 mh0 o0 xq1 xq4 xq6 xq9 xq14 xq19 xq20 xq25 xq30 xq33 xq39 xq45 xq47 mq1 mq2 mq3 mq4 mq5 mq6 mq7 mq8 mq9 mq10 mq11 mq12 mq13 mq14 mq15 mq16 mq17 mq18 mq19 mq20 mq21 mq22 mq23 g0 : Nat} (hl0 : l.stackTraces = false) (C0 : lw_At p s m meth c b 7 xs) (hK : va_K (dC, dI) vwCl [(cI, .int), (cJ, .long)] s) (hF : zF g0 (fun q : Nat => s.heap.size ≤ q) s) (hG : zG (fun q : Nat => s.heap.size ≤ q) s) {H : Heap} {locs : List Loc} (hP : va_P (dC, dI) vwCl [(xh0, .inr (10, [.ref xq1, .ref xq4, .ref xq6, .ref xq9, .ref xq14, .ref xq19, .ref xq20, .ref xq25, .ref xq30, .ref xq33, .ref xq39, .ref xq45, .ref xq47, .int 0, .int (-1), .int 0, .int 0])), (mh0, .inr (11, [.int 0, .ref mq1, .int 0, .int 0, .int 0, .int 0, .ref mq2, .ref mq3, .ref mq4, .ref mq5, .ref mq6, .ref mq7, .ref mq8, .int 0, .int 0, .ref mq9, .ref mq10, .ref mq11, .ref mq12, .ref mq13, .int 0, .int 0, .ref mq14, .ref mq15, .ref mq16, .int 0, .int 0, .ref mq17, .ref mq18, .int (-1), .int 0, .ref mq19, .int 0, .long 0, .ref mq20, .int 0, .int 0, .ref mq21, .ref mq22, .ref mq23, .int 0]))] H) (hD : va_D (fun q : Nat => s.heap.size ≤ q) [(xh0, .inr (10, [.ref xq1, .ref xq4, .ref xq6, .ref xq9, .ref xq14, .ref xq19, .ref xq20, .ref xq25, .ref xq30, .ref xq33, .ref xq39, .ref xq45, .ref xq47, .int 0, .int (-1), .int 0, .int 0])), (mh0, .inr (11, [.int 0, .ref mq1, .int 0, .int 0, .int 0, .int 0, .ref mq2, .ref mq3, .ref mq4, .ref mq5, .ref mq6, .ref mq7, .ref mq8, .int 0, .int 0, .ref mq9, .ref mq10, .ref mq11, .ref mq12, .ref mq13, .int 0, .int 0, .ref mq14, .ref mq15, .ref mq16, .int 0, .int 0, .ref mq17, .ref mq18, .int (-1), .int 0, .ref mq19, .int 0, .long 0, .ref mq20, .int 0, .int 0, .ref mq21, .ref mq22, .ref mq23, .int 0]))]) (hS : va_S (fun q : Nat => s.heap.size ≤ q) s.heap H locs) {ls : Array Slot} (hl : lv_has ls 7 [(0, .ref b), (1, .ref xh0), (2, .ref mh0), (3, .ref o0), (4, .int 0)]) : W p l e room_1 s m #[Value.ref b] below meth c H locs 62 13545 (lw_Z below #[Value.ref b] s) (F0 m 1787 ls []) := by
  obtain ⟨hx, hb, hr, hml, hown, hts0, hX, hbl, hlocks, hgv⟩ := id C0
  have hts : ∀ w ∈ wA, w.before #[Value.ref b] s = true := fun w h => hts0 w (List.mem_filter.mp h).1
  have hown : s.vm.findClass RL = some m.cls := hown
  have hA : ∀ q : Nat, s.heap.size ≤ q → (fun q : Nat => s.heap.size ≤ q) q := fun _ h => h
  have hbA : ¬ (fun q : Nat => s.heap.size ≤ q) b := Nat.not_le.mpr hbl
  refine lv_aload_n hx hb dL_law_1787 rfl (lv_at hl 1 rfl) ?_
  have hPc := hP.sub (ws' := [(xh0, .inr (10, [.ref xq1, .ref xq4, .ref xq6, .ref xq9, .ref xq14, .ref xq19, .ref xq20, .ref xq25, .ref xq30, .ref xq33, .ref xq39, .ref xq45, .ref xq47, .int 0, .int (-1), .int 0, .int 0]))]) [0] rfl
  have hDc := hD.sub (ws' := [(xh0, .inr (10, [.ref xq1, .ref xq4, .ref xq6, .ref xq9, .ref xq14, .ref xq19, .ref xq20, .ref xq25, .ref xq30, .ref xq33, .ref xq39, .ref xq45, .ref xq47, .int 0, .int (-1), .int 0, .int 0]))]) [0] (by decide) rfl
  have hFc := zfr hS hA
  refine va_calli (va_runV (As := []) (rest := []) ⟨hx, hb, hml, hown, hts⟩ (c_X10_back l dC dI cI cJ xh0 xq1 xq4 xq6 xq9 xq14 xq19 xq20 xq25 xq30 xq33 xq39 xq45 xq47 H.size) (cwV 0 hts (zgV qw1043 qw1044 qw1045 qw98 qw1046) rfl rfl rfl hd_X10_back ⟨Nat.le_of_ble_eq_true rfl, Nat.le_of_ble_eq_true rfl⟩) (zPV hPc hK hDc (va_recv hK hP (ci := 10) (q0 := 0) rfl rfl)) rfl rfl hl.1 rfl (lv_room (Nat.le_of_ble_eq_true rfl)) dL_law_1788 ⟨Nat.le_of_ble_eq_true rfl, Nat.le_of_ble_eq_true rfl⟩) hS (fun q _ h => hFc q h) hFc (fun r_1 u t H locs ht hvm hw hB hz1 hk1 hS => ?_)
  have hP := zkeep hP hk1
  have hw : r_1 = (-1) := hw
  subst hw
  refine lv_aload_n hx hb dL_law_1791 rfl (lv_at hl 2 rfl) ?_
  have hPc := hP.sub (ws' := [(mh0, .inr (11, [.int 0, .ref mq1, .int 0, .int 0, .int 0, .int 0, .ref mq2, .ref mq3, .ref mq4, .ref mq5, .ref mq6, .ref mq7, .ref mq8, .int 0, .int 0, .ref mq9, .ref mq10, .ref mq11, .ref mq12, .ref mq13, .int 0, .int 0, .ref mq14, .ref mq15, .ref mq16, .int 0, .int 0, .ref mq17, .ref mq18, .int (-1), .int 0, .ref mq19, .int 0, .long 0, .ref mq20, .int 0, .int 0, .ref mq21, .ref mq22, .ref mq23, .int 0]))]) [1] rfl
  have hDc := hD.sub (ws' := [(mh0, .inr (11, [.int 0, .ref mq1, .int 0, .int 0, .int 0, .int 0, .ref mq2, .ref mq3, .ref mq4, .ref mq5, .ref mq6, .ref mq7, .ref mq8, .int 0, .int 0, .ref mq9, .ref mq10, .ref mq11, .ref mq12, .ref mq13, .int 0, .int 0, .ref mq14, .ref mq15, .ref mq16, .int 0, .int 0, .ref mq17, .ref mq18, .int (-1), .int 0, .ref mq19, .int 0, .long 0, .ref mq20, .int 0, .int 0, .ref mq21, .ref mq22, .ref mq23, .int 0]))]) [1] (by decide) rfl
  have hFc := zfr hS hA
  refine va_calli (va_runV (As := []) (rest := [.int (-1)]) ⟨hx, hb, hml, hown, hts⟩ (c_X11_back l dC dI cI cJ mh0 mq1 mq2 mq3 mq4 mq5 mq6 mq7 mq8 mq9 mq10 mq11 mq12 mq13 mq14 mq15 mq16 mq17 mq18 mq19 mq20 mq21 mq22 mq23 H.size) (cwV 0 hts (zgV qw1757 qw1758 qw1759 qw108 qw1760) rfl rfl rfl hd_X11_back ⟨Nat.le_of_ble_eq_true rfl, Nat.le_of_ble_eq_true rfl⟩) (zPV hPc hK hDc (va_recv hK hP (ci := 11) (q0 := 1) rfl rfl)) rfl rfl hl.1 rfl (lv_room (Nat.le_of_ble_eq_true rfl)) dL_law_1792 ⟨Nat.le_of_ble_eq_true rfl, Nat.le_of_ble_eq_true rfl⟩) hS (fun q _ h => hFc q h) hFc (fun r_2 u t H locs ht hvm hw hB hz1 hk1 hS => ?_)
  have hP := zkeep hP hk1
  have hw : r_2 = (-1) := hw
  subst hw
  refine lv_icmp_eq (tgt := 1825) hx hb dL_law_1795 (by decide) (fun _ => ?_) (fun c => absurd (by decide) c)
  exact law_end C0 hS (lv_sub hl [0, 4] rfl)
set_option maxHeartbeats 4000000 in
set_option maxRecDepth 100000 in
theorem law_case_47 {p : Program} {l : Launch} {e : Env} {s : State} {m : MethodId} {below : List Frame} {meth : Method} {c : Code} {b : Nat} {xs : Nat → Int32} {dC : Nat → ClassId} {dI : Nat → Nat → Nat} {cI cJ : ClassId} {xh0 mh0 o0 xq1 xq4 xq6 xq9 xq14 xq19 xq20 xq25 xq30 xq33 xq39 xq45 xq47 xq3 xq16 xq17 xq18 xq22 xq23 xq24 xq32 mq1 mq2 mq3 mq4 mq5 mq6 mq7 mq8 mq9 mq10 mq11 mq12 mq13 mq14 mq15 mq16 mq17 mq18 mq19 mq20 mq21 mq22 mq23 g0 : Nat} (hl0 : l.stackTraces = false) (C0 : lw_At p s m meth c b 7 xs) (hK : va_K (dC, dI) vwCl [(cI, .int), (cJ, .long)] s) (hF : zF g0 (fun q : Nat => s.heap.size ≤ q) s) (hG : zG (fun q : Nat => s.heap.size ≤ q) s) {H : Heap} {locs : List Loc} (hP : va_P (dC, dI) vwCl [(xh0, .inr (10, [.ref xq1, .ref xq4, .ref xq6, .ref xq9, .ref xq14, .ref xq19, .ref xq20, .ref xq25, .ref xq30, .ref xq33, .ref xq39, .ref xq45, .ref xq47, .int 0, .int (-1), .int 0, .int 0])), (xq1, .inr (9, [.ref xq3, .int 0, .int 0])), (xq14, .inr (1, [.ref xq16, .ref xq17, .ref xq18, .int 0, .int 0])), (xq20, .inr (7, [.ref xq22, .ref xq23, .ref xq24, .int 0, .int 0, .int 0, .int (-1), .int 0, .int 0])), (xq30, .inr (0, [.ref xq32, .int 0, .int 0])), (mh0, .inr (11, [.int 0, .ref mq1, .int 0, .int 0, .int 0, .int 0, .ref mq2, .ref mq3, .ref mq4, .ref mq5, .ref mq6, .ref mq7, .ref mq8, .int 0, .int 0, .ref mq9, .ref mq10, .ref mq11, .ref mq12, .ref mq13, .int 0, .int 0, .ref mq14, .ref mq15, .ref mq16, .int 0, .int 0, .ref mq17, .ref mq18, .int (-1), .int 0, .ref mq19, .int 0, .long 0, .ref mq20, .int 0, .int 0, .ref mq21, .ref mq22, .ref mq23, .int 0])), (mq17, .inl (cI, 97, .inl (fun _ => 0)))] H) (hD : va_D (fun q : Nat => s.heap.size ≤ q) [(xh0, .inr (10, [.ref xq1, .ref xq4, .ref xq6, .ref xq9, .ref xq14, .ref xq19, .ref xq20, .ref xq25, .ref xq30, .ref xq33, .ref xq39, .ref xq45, .ref xq47, .int 0, .int (-1), .int 0, .int 0])), (xq1, .inr (9, [.ref xq3, .int 0, .int 0])), (xq14, .inr (1, [.ref xq16, .ref xq17, .ref xq18, .int 0, .int 0])), (xq20, .inr (7, [.ref xq22, .ref xq23, .ref xq24, .int 0, .int 0, .int 0, .int (-1), .int 0, .int 0])), (xq30, .inr (0, [.ref xq32, .int 0, .int 0])), (mh0, .inr (11, [.int 0, .ref mq1, .int 0, .int 0, .int 0, .int 0, .ref mq2, .ref mq3, .ref mq4, .ref mq5, .ref mq6, .ref mq7, .ref mq8, .int 0, .int 0, .ref mq9, .ref mq10, .ref mq11, .ref mq12, .ref mq13, .int 0, .int 0, .ref mq14, .ref mq15, .ref mq16, .int 0, .int 0, .ref mq17, .ref mq18, .int (-1), .int 0, .ref mq19, .int 0, .long 0, .ref mq20, .int 0, .int 0, .ref mq21, .ref mq22, .ref mq23, .int 0])), (mq17, .inl (cI, 97, .inl (fun _ => 0)))]) (hS : va_S (fun q : Nat => s.heap.size ≤ q) s.heap H locs) {ls : Array Slot} (hl : lv_has ls 7 [(0, .ref b), (1, .ref xh0), (2, .ref mh0), (3, .ref o0), (4, .int 0)]) : W p l e room_1 s m #[Value.ref b] below meth c H locs 62 13545 (lw_Z below #[Value.ref b] s) (F0 m 1800 ls []) := by
  obtain ⟨hx, hb, hr, hml, hown, hts0, hX, hbl, hlocks, hgv⟩ := id C0
  have hts : ∀ w ∈ wA, w.before #[Value.ref b] s = true := fun w h => hts0 w (List.mem_filter.mp h).1
  have hown : s.vm.findClass RL = some m.cls := hown
  have hA : ∀ q : Nat, s.heap.size ≤ q → (fun q : Nat => s.heap.size ≤ q) q := fun _ h => h
  have hbA : ¬ (fun q : Nat => s.heap.size ≤ q) b := Nat.not_le.mpr hbl
  refine lv_aload_n hx hb dL_law_1800 rfl (lv_at hl 1 rfl) ?_
  refine lv_aload_n hx hb dL_law_1801 rfl (lv_at hl 0 rfl) ?_
  refine lv_iload hx hb dL_law_1802 (lv_at hl 4 rfl) ?_
  refine lv_iconst (v := 1) hx hb dL_law_1804 (by decide) ?_
  refine lv_iadd hx hb dL_law_1805 ?_
  refine lv_topi (fun v_1 ev_1 => ?_)
  obtain rfl : v_1 = 1 := ev_1.trans (by decide)
  refine va_sld hx hb hX hbl hbA hS (by unfold vp_in; decide) dL_law_1806 ?_
  refine lv_topi (fun v_2 ev_2 => ?_)
  obtain rfl : v_2 = xs 1 := ev_2
  have hPc := hP.sub (ws' := [(xh0, .inr (10, [.ref xq1, .ref xq4, .ref xq6, .ref xq9, .ref xq14, .ref xq19, .ref xq20, .ref xq25, .ref xq30, .ref xq33, .ref xq39, .ref xq45, .ref xq47, .int 0, .int (-1), .int 0, .int 0])), (xq1, .inr (9, [.ref xq3, .int 0, .int 0])), (xq14, .inr (1, [.ref xq16, .ref xq17, .ref xq18, .int 0, .int 0])), (xq20, .inr (7, [.ref xq22, .ref xq23, .ref xq24, .int 0, .int 0, .int 0, .int (-1), .int 0, .int 0])), (xq30, .inr (0, [.ref xq32, .int 0, .int 0]))]) [0, 1, 2, 3, 4] rfl
  have hDc := hD.sub (ws' := [(xh0, .inr (10, [.ref xq1, .ref xq4, .ref xq6, .ref xq9, .ref xq14, .ref xq19, .ref xq20, .ref xq25, .ref xq30, .ref xq33, .ref xq39, .ref xq45, .ref xq47, .int 0, .int (-1), .int 0, .int 0])), (xq1, .inr (9, [.ref xq3, .int 0, .int 0])), (xq14, .inr (1, [.ref xq16, .ref xq17, .ref xq18, .int 0, .int 0])), (xq20, .inr (7, [.ref xq22, .ref xq23, .ref xq24, .int 0, .int 0, .int 0, .int (-1), .int 0, .int 0])), (xq30, .inr (0, [.ref xq32, .int 0, .int 0]))]) [0, 1, 2, 3, 4] (by decide) rfl
  have hFc := zfr hS hA
  refine va_calli (va_runV (As := [.int (xs 1)]) (rest := []) ⟨hx, hb, hml, hown, hts⟩ (c_X10_count l dC dI cI cJ xh0 xq1 xq4 xq6 xq9 xq14 xq19 xq20 xq25 xq30 xq33 xq39 xq45 xq47 xq3 xq16 xq17 xq18 xq22 xq23 xq24 xq32 H.size (xs 1)) (cwV 1 hts (zgV qw1047 qw1048 qw1049 qw98 qw1050) rfl rfl rfl hd_X10_count ⟨Nat.le_of_ble_eq_true rfl, Nat.le_of_ble_eq_true rfl⟩) (zPV hPc hK hDc (va_recv hK hP (ci := 10) (q0 := 0) rfl rfl)) rfl rfl hl.1 rfl (lv_room (Nat.le_of_ble_eq_true rfl)) dL_law_1807 ⟨Nat.le_of_ble_eq_true rfl, Nat.le_of_ble_eq_true rfl⟩) hS (fun q _ h => hFc q h) hFc (fun r_3 u t H locs ht hvm hw hB hz1 hk1 hS => ?_)
  have hP := zkeep hP hk1
  rcases hw with ⟨c_3_0, rfl⟩ | ⟨c_3_0, rfl⟩ | ⟨c_3_0, rfl⟩ | ⟨c_3_0, rfl⟩ | ⟨c_3_0, rfl⟩ | ⟨c_3_0, rfl⟩ | ⟨c_3_0, rfl⟩ | ⟨c_3_0, rfl⟩ | ⟨c_3_0, rfl⟩ | ⟨c_3_0, rfl⟩ | ⟨c_3_0, rfl⟩
  · skip
    refine lv_aload_n hx hb dL_law_1810 rfl (lv_at hl 2 rfl) ?_
    refine lv_aload_n hx hb dL_law_1811 rfl (lv_at hl 0 rfl) ?_
    refine lv_iload hx hb dL_law_1812 (lv_at hl 4 rfl) ?_
    refine lv_iconst (v := 1) hx hb dL_law_1814 (by decide) ?_
    refine lv_iadd hx hb dL_law_1815 ?_
    refine lv_topi (fun v_4 ev_4 => ?_)
    obtain rfl : v_4 = 1 := ev_4.trans (by decide)
    refine va_sld hx hb hX hbl hbA hS (by unfold vp_in; decide) dL_law_1816 ?_
    refine lv_topi (fun v_5 ev_5 => ?_)
    obtain rfl : v_5 = xs 1 := ev_5
    have hPc := hP.sub (ws' := [(mh0, .inr (11, [.int 0, .ref mq1, .int 0, .int 0, .int 0, .int 0, .ref mq2, .ref mq3, .ref mq4, .ref mq5, .ref mq6, .ref mq7, .ref mq8, .int 0, .int 0, .ref mq9, .ref mq10, .ref mq11, .ref mq12, .ref mq13, .int 0, .int 0, .ref mq14, .ref mq15, .ref mq16, .int 0, .int 0, .ref mq17, .ref mq18, .int (-1), .int 0, .ref mq19, .int 0, .long 0, .ref mq20, .int 0, .int 0, .ref mq21, .ref mq22, .ref mq23, .int 0])), (mq17, .inl (cI, 97, .inl (fun _ => 0)))]) [5, 6] rfl
    have hDc := hD.sub (ws' := [(mh0, .inr (11, [.int 0, .ref mq1, .int 0, .int 0, .int 0, .int 0, .ref mq2, .ref mq3, .ref mq4, .ref mq5, .ref mq6, .ref mq7, .ref mq8, .int 0, .int 0, .ref mq9, .ref mq10, .ref mq11, .ref mq12, .ref mq13, .int 0, .int 0, .ref mq14, .ref mq15, .ref mq16, .int 0, .int 0, .ref mq17, .ref mq18, .int (-1), .int 0, .ref mq19, .int 0, .long 0, .ref mq20, .int 0, .int 0, .ref mq21, .ref mq22, .ref mq23, .int 0])), (mq17, .inl (cI, 97, .inl (fun _ => 0)))]) [5, 6] (by decide) rfl
    have hFc := zfr hS hA
    refine va_calli (va_runV (As := [.int (xs 1)]) (rest := [.int (-1000000)]) ⟨hx, hb, hml, hown, hts⟩ (c_X11_count l dC dI cI cJ mh0 mq1 mq2 mq3 mq4 mq5 mq6 mq7 mq8 mq9 mq10 mq11 mq12 mq13 mq14 mq15 mq16 mq17 mq18 mq19 mq20 mq21 mq22 mq23 H.size (xs 1)) (cwV 1 hts (zgV qw1761 qw1762 qw1763 qw108 qw1764) rfl rfl rfl hd_X11_count ⟨Nat.le_of_ble_eq_true rfl, Nat.le_of_ble_eq_true rfl⟩) (zPV hPc hK hDc (va_recv hK hP (ci := 11) (q0 := 5) rfl rfl)) rfl rfl hl.1 rfl (lv_room (Nat.le_of_ble_eq_true rfl)) dL_law_1817 ⟨Nat.le_of_ble_eq_true rfl, Nat.le_of_ble_eq_true rfl⟩) hS (fun q _ h => hFc q h) hFc (fun r_6 u t H locs ht hvm hw hB hz1 hk1 hS => ?_)
    have hP := zkeep hP hk1
    rcases hw with ⟨c_6_0, rfl⟩ | ⟨c_6_0, rfl⟩ | ⟨c_6_0, rfl⟩ | ⟨c_6_0, rfl⟩ | ⟨c_6_0, rfl⟩ | ⟨c_6_0, rfl⟩ | ⟨c_6_0, rfl⟩ | ⟨c_6_0, rfl⟩ | ⟨c_6_0, rfl⟩ | ⟨c_6_0, rfl⟩ | ⟨c_6_0, rfl⟩
    · skip
      refine lv_icmp_eq (tgt := 1825) hx hb dL_law_1820 (by decide) (fun _ => ?_) (fun c => absurd (by decide) c)
      exact law_end C0 hS (lv_sub hl [0, 4] rfl)
    · skip
      have i_6_0 : (xs 1).toInt = 0 := z5 rfl (by decide) c_6_0
      exfalso; omega
    · skip
      have i_6_0 : (xs 1).toInt = 1 := z5 rfl (by decide) c_6_0
      exfalso; omega
    · skip
      have i_6_0 : (xs 1).toInt = 2 := z5 rfl (by decide) c_6_0
      exfalso; omega
    · skip
      have i_6_0 : (xs 1).toInt = 3 := z5 rfl (by decide) c_6_0
      exfalso; omega
    · skip
      have i_6_0 : (xs 1).toInt = 4 := z5 rfl (by decide) c_6_0
      exfalso; omega
    · skip
      have i_6_0 : (xs 1).toInt = 5 := z5 rfl (by decide) c_6_0
      exfalso; omega
    · skip
      have i_6_0 : (xs 1).toInt = 6 := z5 rfl (by decide) c_6_0
      exfalso; omega
    · skip
      have i_6_0 : (xs 1).toInt = 7 := z5 rfl (by decide) c_6_0
      exfalso; omega
    · skip
      have i_6_0 : (xs 1).toInt = 8 := z5 rfl (by decide) c_6_0
      exfalso; omega
    · skip
      have i_6_0 : (xs 1).toInt = 9 := z5 rfl (by decide) c_6_0
      exfalso; omega
  · skip
    have i_3_0 : (xs 1).toInt = 0 := z5 rfl (by decide) c_3_0
    refine lv_aload_n hx hb dL_law_1810 rfl (lv_at hl 2 rfl) ?_
    refine lv_aload_n hx hb dL_law_1811 rfl (lv_at hl 0 rfl) ?_
    refine lv_iload hx hb dL_law_1812 (lv_at hl 4 rfl) ?_
    refine lv_iconst (v := 1) hx hb dL_law_1814 (by decide) ?_
    refine lv_iadd hx hb dL_law_1815 ?_
    refine lv_topi (fun v_7 ev_7 => ?_)
    obtain rfl : v_7 = 1 := ev_7.trans (by decide)
    refine va_sld hx hb hX hbl hbA hS (by unfold vp_in; decide) dL_law_1816 ?_
    refine lv_topi (fun v_8 ev_8 => ?_)
    obtain rfl : v_8 = xs 1 := ev_8
    have hPc := hP.sub (ws' := [(mh0, .inr (11, [.int 0, .ref mq1, .int 0, .int 0, .int 0, .int 0, .ref mq2, .ref mq3, .ref mq4, .ref mq5, .ref mq6, .ref mq7, .ref mq8, .int 0, .int 0, .ref mq9, .ref mq10, .ref mq11, .ref mq12, .ref mq13, .int 0, .int 0, .ref mq14, .ref mq15, .ref mq16, .int 0, .int 0, .ref mq17, .ref mq18, .int (-1), .int 0, .ref mq19, .int 0, .long 0, .ref mq20, .int 0, .int 0, .ref mq21, .ref mq22, .ref mq23, .int 0])), (mq17, .inl (cI, 97, .inl (fun _ => 0)))]) [5, 6] rfl
    have hDc := hD.sub (ws' := [(mh0, .inr (11, [.int 0, .ref mq1, .int 0, .int 0, .int 0, .int 0, .ref mq2, .ref mq3, .ref mq4, .ref mq5, .ref mq6, .ref mq7, .ref mq8, .int 0, .int 0, .ref mq9, .ref mq10, .ref mq11, .ref mq12, .ref mq13, .int 0, .int 0, .ref mq14, .ref mq15, .ref mq16, .int 0, .int 0, .ref mq17, .ref mq18, .int (-1), .int 0, .ref mq19, .int 0, .long 0, .ref mq20, .int 0, .int 0, .ref mq21, .ref mq22, .ref mq23, .int 0])), (mq17, .inl (cI, 97, .inl (fun _ => 0)))]) [5, 6] (by decide) rfl
    have hFc := zfr hS hA
    refine va_calli (va_runV (As := [.int (xs 1)]) (rest := [.int 0]) ⟨hx, hb, hml, hown, hts⟩ (c_X11_count l dC dI cI cJ mh0 mq1 mq2 mq3 mq4 mq5 mq6 mq7 mq8 mq9 mq10 mq11 mq12 mq13 mq14 mq15 mq16 mq17 mq18 mq19 mq20 mq21 mq22 mq23 H.size (xs 1)) (cwV 1 hts (zgV qw1761 qw1762 qw1763 qw108 qw1764) rfl rfl rfl hd_X11_count ⟨Nat.le_of_ble_eq_true rfl, Nat.le_of_ble_eq_true rfl⟩) (zPV hPc hK hDc (va_recv hK hP (ci := 11) (q0 := 5) rfl rfl)) rfl rfl hl.1 rfl (lv_room (Nat.le_of_ble_eq_true rfl)) dL_law_1817 ⟨Nat.le_of_ble_eq_true rfl, Nat.le_of_ble_eq_true rfl⟩) hS (fun q _ h => hFc q h) hFc (fun r_9 u t H locs ht hvm hw hB hz1 hk1 hS => ?_)
    have hP := zkeep hP hk1
    rcases hw with ⟨c_9_0, rfl⟩ | ⟨c_9_0, rfl⟩ | ⟨c_9_0, rfl⟩ | ⟨c_9_0, rfl⟩ | ⟨c_9_0, rfl⟩ | ⟨c_9_0, rfl⟩ | ⟨c_9_0, rfl⟩ | ⟨c_9_0, rfl⟩ | ⟨c_9_0, rfl⟩ | ⟨c_9_0, rfl⟩ | ⟨c_9_0, rfl⟩
    · skip
      exfalso; omega
    · skip
      have i_9_0 : (xs 1).toInt = 0 := z5 rfl (by decide) c_9_0
      refine lv_icmp_eq (tgt := 1825) hx hb dL_law_1820 (by decide) (fun _ => ?_) (fun c => absurd (by decide) c)
      exact law_end C0 hS (lv_sub hl [0, 4] rfl)
    · skip
      have i_9_0 : (xs 1).toInt = 1 := z5 rfl (by decide) c_9_0
      exfalso; omega
    · skip
      have i_9_0 : (xs 1).toInt = 2 := z5 rfl (by decide) c_9_0
      exfalso; omega
    · skip
      have i_9_0 : (xs 1).toInt = 3 := z5 rfl (by decide) c_9_0
      exfalso; omega
    · skip
      have i_9_0 : (xs 1).toInt = 4 := z5 rfl (by decide) c_9_0
      exfalso; omega
    · skip
      have i_9_0 : (xs 1).toInt = 5 := z5 rfl (by decide) c_9_0
      exfalso; omega
    · skip
      have i_9_0 : (xs 1).toInt = 6 := z5 rfl (by decide) c_9_0
      exfalso; omega
    · skip
      have i_9_0 : (xs 1).toInt = 7 := z5 rfl (by decide) c_9_0
      exfalso; omega
    · skip
      have i_9_0 : (xs 1).toInt = 8 := z5 rfl (by decide) c_9_0
      exfalso; omega
    · skip
      have i_9_0 : (xs 1).toInt = 9 := z5 rfl (by decide) c_9_0
      exfalso; omega
  · skip
    have i_3_0 : (xs 1).toInt = 1 := z5 rfl (by decide) c_3_0
    refine lv_aload_n hx hb dL_law_1810 rfl (lv_at hl 2 rfl) ?_
    refine lv_aload_n hx hb dL_law_1811 rfl (lv_at hl 0 rfl) ?_
    refine lv_iload hx hb dL_law_1812 (lv_at hl 4 rfl) ?_
    refine lv_iconst (v := 1) hx hb dL_law_1814 (by decide) ?_
    refine lv_iadd hx hb dL_law_1815 ?_
    refine lv_topi (fun v_10 ev_10 => ?_)
    obtain rfl : v_10 = 1 := ev_10.trans (by decide)
    refine va_sld hx hb hX hbl hbA hS (by unfold vp_in; decide) dL_law_1816 ?_
    refine lv_topi (fun v_11 ev_11 => ?_)
    obtain rfl : v_11 = xs 1 := ev_11
    have hPc := hP.sub (ws' := [(mh0, .inr (11, [.int 0, .ref mq1, .int 0, .int 0, .int 0, .int 0, .ref mq2, .ref mq3, .ref mq4, .ref mq5, .ref mq6, .ref mq7, .ref mq8, .int 0, .int 0, .ref mq9, .ref mq10, .ref mq11, .ref mq12, .ref mq13, .int 0, .int 0, .ref mq14, .ref mq15, .ref mq16, .int 0, .int 0, .ref mq17, .ref mq18, .int (-1), .int 0, .ref mq19, .int 0, .long 0, .ref mq20, .int 0, .int 0, .ref mq21, .ref mq22, .ref mq23, .int 0])), (mq17, .inl (cI, 97, .inl (fun _ => 0)))]) [5, 6] rfl
    have hDc := hD.sub (ws' := [(mh0, .inr (11, [.int 0, .ref mq1, .int 0, .int 0, .int 0, .int 0, .ref mq2, .ref mq3, .ref mq4, .ref mq5, .ref mq6, .ref mq7, .ref mq8, .int 0, .int 0, .ref mq9, .ref mq10, .ref mq11, .ref mq12, .ref mq13, .int 0, .int 0, .ref mq14, .ref mq15, .ref mq16, .int 0, .int 0, .ref mq17, .ref mq18, .int (-1), .int 0, .ref mq19, .int 0, .long 0, .ref mq20, .int 0, .int 0, .ref mq21, .ref mq22, .ref mq23, .int 0])), (mq17, .inl (cI, 97, .inl (fun _ => 0)))]) [5, 6] (by decide) rfl
    have hFc := zfr hS hA
    refine va_calli (va_runV (As := [.int (xs 1)]) (rest := [.int 0]) ⟨hx, hb, hml, hown, hts⟩ (c_X11_count l dC dI cI cJ mh0 mq1 mq2 mq3 mq4 mq5 mq6 mq7 mq8 mq9 mq10 mq11 mq12 mq13 mq14 mq15 mq16 mq17 mq18 mq19 mq20 mq21 mq22 mq23 H.size (xs 1)) (cwV 1 hts (zgV qw1761 qw1762 qw1763 qw108 qw1764) rfl rfl rfl hd_X11_count ⟨Nat.le_of_ble_eq_true rfl, Nat.le_of_ble_eq_true rfl⟩) (zPV hPc hK hDc (va_recv hK hP (ci := 11) (q0 := 5) rfl rfl)) rfl rfl hl.1 rfl (lv_room (Nat.le_of_ble_eq_true rfl)) dL_law_1817 ⟨Nat.le_of_ble_eq_true rfl, Nat.le_of_ble_eq_true rfl⟩) hS (fun q _ h => hFc q h) hFc (fun r_12 u t H locs ht hvm hw hB hz1 hk1 hS => ?_)
    have hP := zkeep hP hk1
    rcases hw with ⟨c_12_0, rfl⟩ | ⟨c_12_0, rfl⟩ | ⟨c_12_0, rfl⟩ | ⟨c_12_0, rfl⟩ | ⟨c_12_0, rfl⟩ | ⟨c_12_0, rfl⟩ | ⟨c_12_0, rfl⟩ | ⟨c_12_0, rfl⟩ | ⟨c_12_0, rfl⟩ | ⟨c_12_0, rfl⟩ | ⟨c_12_0, rfl⟩
    · skip
      exfalso; omega
    · skip
      have i_12_0 : (xs 1).toInt = 0 := z5 rfl (by decide) c_12_0
      exfalso; omega
    · skip
      have i_12_0 : (xs 1).toInt = 1 := z5 rfl (by decide) c_12_0
      refine lv_icmp_eq (tgt := 1825) hx hb dL_law_1820 (by decide) (fun _ => ?_) (fun c => absurd (by decide) c)
      exact law_end C0 hS (lv_sub hl [0, 4] rfl)
    · skip
      have i_12_0 : (xs 1).toInt = 2 := z5 rfl (by decide) c_12_0
      exfalso; omega
    · skip
      have i_12_0 : (xs 1).toInt = 3 := z5 rfl (by decide) c_12_0
      exfalso; omega
    · skip
      have i_12_0 : (xs 1).toInt = 4 := z5 rfl (by decide) c_12_0
      exfalso; omega
    · skip
      have i_12_0 : (xs 1).toInt = 5 := z5 rfl (by decide) c_12_0
      exfalso; omega
    · skip
      have i_12_0 : (xs 1).toInt = 6 := z5 rfl (by decide) c_12_0
      exfalso; omega
    · skip
      have i_12_0 : (xs 1).toInt = 7 := z5 rfl (by decide) c_12_0
      exfalso; omega
    · skip
      have i_12_0 : (xs 1).toInt = 8 := z5 rfl (by decide) c_12_0
      exfalso; omega
    · skip
      have i_12_0 : (xs 1).toInt = 9 := z5 rfl (by decide) c_12_0
      exfalso; omega
  · skip
    have i_3_0 : (xs 1).toInt = 2 := z5 rfl (by decide) c_3_0
    refine lv_aload_n hx hb dL_law_1810 rfl (lv_at hl 2 rfl) ?_
    refine lv_aload_n hx hb dL_law_1811 rfl (lv_at hl 0 rfl) ?_
    refine lv_iload hx hb dL_law_1812 (lv_at hl 4 rfl) ?_
    refine lv_iconst (v := 1) hx hb dL_law_1814 (by decide) ?_
    refine lv_iadd hx hb dL_law_1815 ?_
    refine lv_topi (fun v_13 ev_13 => ?_)
    obtain rfl : v_13 = 1 := ev_13.trans (by decide)
    refine va_sld hx hb hX hbl hbA hS (by unfold vp_in; decide) dL_law_1816 ?_
    refine lv_topi (fun v_14 ev_14 => ?_)
    obtain rfl : v_14 = xs 1 := ev_14
    have hPc := hP.sub (ws' := [(mh0, .inr (11, [.int 0, .ref mq1, .int 0, .int 0, .int 0, .int 0, .ref mq2, .ref mq3, .ref mq4, .ref mq5, .ref mq6, .ref mq7, .ref mq8, .int 0, .int 0, .ref mq9, .ref mq10, .ref mq11, .ref mq12, .ref mq13, .int 0, .int 0, .ref mq14, .ref mq15, .ref mq16, .int 0, .int 0, .ref mq17, .ref mq18, .int (-1), .int 0, .ref mq19, .int 0, .long 0, .ref mq20, .int 0, .int 0, .ref mq21, .ref mq22, .ref mq23, .int 0])), (mq17, .inl (cI, 97, .inl (fun _ => 0)))]) [5, 6] rfl
    have hDc := hD.sub (ws' := [(mh0, .inr (11, [.int 0, .ref mq1, .int 0, .int 0, .int 0, .int 0, .ref mq2, .ref mq3, .ref mq4, .ref mq5, .ref mq6, .ref mq7, .ref mq8, .int 0, .int 0, .ref mq9, .ref mq10, .ref mq11, .ref mq12, .ref mq13, .int 0, .int 0, .ref mq14, .ref mq15, .ref mq16, .int 0, .int 0, .ref mq17, .ref mq18, .int (-1), .int 0, .ref mq19, .int 0, .long 0, .ref mq20, .int 0, .int 0, .ref mq21, .ref mq22, .ref mq23, .int 0])), (mq17, .inl (cI, 97, .inl (fun _ => 0)))]) [5, 6] (by decide) rfl
    have hFc := zfr hS hA
    refine va_calli (va_runV (As := [.int (xs 1)]) (rest := [.int 0]) ⟨hx, hb, hml, hown, hts⟩ (c_X11_count l dC dI cI cJ mh0 mq1 mq2 mq3 mq4 mq5 mq6 mq7 mq8 mq9 mq10 mq11 mq12 mq13 mq14 mq15 mq16 mq17 mq18 mq19 mq20 mq21 mq22 mq23 H.size (xs 1)) (cwV 1 hts (zgV qw1761 qw1762 qw1763 qw108 qw1764) rfl rfl rfl hd_X11_count ⟨Nat.le_of_ble_eq_true rfl, Nat.le_of_ble_eq_true rfl⟩) (zPV hPc hK hDc (va_recv hK hP (ci := 11) (q0 := 5) rfl rfl)) rfl rfl hl.1 rfl (lv_room (Nat.le_of_ble_eq_true rfl)) dL_law_1817 ⟨Nat.le_of_ble_eq_true rfl, Nat.le_of_ble_eq_true rfl⟩) hS (fun q _ h => hFc q h) hFc (fun r_15 u t H locs ht hvm hw hB hz1 hk1 hS => ?_)
    have hP := zkeep hP hk1
    rcases hw with ⟨c_15_0, rfl⟩ | ⟨c_15_0, rfl⟩ | ⟨c_15_0, rfl⟩ | ⟨c_15_0, rfl⟩ | ⟨c_15_0, rfl⟩ | ⟨c_15_0, rfl⟩ | ⟨c_15_0, rfl⟩ | ⟨c_15_0, rfl⟩ | ⟨c_15_0, rfl⟩ | ⟨c_15_0, rfl⟩ | ⟨c_15_0, rfl⟩
    · skip
      exfalso; omega
    · skip
      have i_15_0 : (xs 1).toInt = 0 := z5 rfl (by decide) c_15_0
      exfalso; omega
    · skip
      have i_15_0 : (xs 1).toInt = 1 := z5 rfl (by decide) c_15_0
      exfalso; omega
    · skip
      have i_15_0 : (xs 1).toInt = 2 := z5 rfl (by decide) c_15_0
      refine lv_icmp_eq (tgt := 1825) hx hb dL_law_1820 (by decide) (fun _ => ?_) (fun c => absurd (by decide) c)
      exact law_end C0 hS (lv_sub hl [0, 4] rfl)
    · skip
      have i_15_0 : (xs 1).toInt = 3 := z5 rfl (by decide) c_15_0
      exfalso; omega
    · skip
      have i_15_0 : (xs 1).toInt = 4 := z5 rfl (by decide) c_15_0
      exfalso; omega
    · skip
      have i_15_0 : (xs 1).toInt = 5 := z5 rfl (by decide) c_15_0
      exfalso; omega
    · skip
      have i_15_0 : (xs 1).toInt = 6 := z5 rfl (by decide) c_15_0
      exfalso; omega
    · skip
      have i_15_0 : (xs 1).toInt = 7 := z5 rfl (by decide) c_15_0
      exfalso; omega
    · skip
      have i_15_0 : (xs 1).toInt = 8 := z5 rfl (by decide) c_15_0
      exfalso; omega
    · skip
      have i_15_0 : (xs 1).toInt = 9 := z5 rfl (by decide) c_15_0
      exfalso; omega
  · skip
    have i_3_0 : (xs 1).toInt = 3 := z5 rfl (by decide) c_3_0
    refine lv_aload_n hx hb dL_law_1810 rfl (lv_at hl 2 rfl) ?_
    refine lv_aload_n hx hb dL_law_1811 rfl (lv_at hl 0 rfl) ?_
    refine lv_iload hx hb dL_law_1812 (lv_at hl 4 rfl) ?_
    refine lv_iconst (v := 1) hx hb dL_law_1814 (by decide) ?_
    refine lv_iadd hx hb dL_law_1815 ?_
    refine lv_topi (fun v_16 ev_16 => ?_)
    obtain rfl : v_16 = 1 := ev_16.trans (by decide)
    refine va_sld hx hb hX hbl hbA hS (by unfold vp_in; decide) dL_law_1816 ?_
    refine lv_topi (fun v_17 ev_17 => ?_)
    obtain rfl : v_17 = xs 1 := ev_17
    have hPc := hP.sub (ws' := [(mh0, .inr (11, [.int 0, .ref mq1, .int 0, .int 0, .int 0, .int 0, .ref mq2, .ref mq3, .ref mq4, .ref mq5, .ref mq6, .ref mq7, .ref mq8, .int 0, .int 0, .ref mq9, .ref mq10, .ref mq11, .ref mq12, .ref mq13, .int 0, .int 0, .ref mq14, .ref mq15, .ref mq16, .int 0, .int 0, .ref mq17, .ref mq18, .int (-1), .int 0, .ref mq19, .int 0, .long 0, .ref mq20, .int 0, .int 0, .ref mq21, .ref mq22, .ref mq23, .int 0])), (mq17, .inl (cI, 97, .inl (fun _ => 0)))]) [5, 6] rfl
    have hDc := hD.sub (ws' := [(mh0, .inr (11, [.int 0, .ref mq1, .int 0, .int 0, .int 0, .int 0, .ref mq2, .ref mq3, .ref mq4, .ref mq5, .ref mq6, .ref mq7, .ref mq8, .int 0, .int 0, .ref mq9, .ref mq10, .ref mq11, .ref mq12, .ref mq13, .int 0, .int 0, .ref mq14, .ref mq15, .ref mq16, .int 0, .int 0, .ref mq17, .ref mq18, .int (-1), .int 0, .ref mq19, .int 0, .long 0, .ref mq20, .int 0, .int 0, .ref mq21, .ref mq22, .ref mq23, .int 0])), (mq17, .inl (cI, 97, .inl (fun _ => 0)))]) [5, 6] (by decide) rfl
    have hFc := zfr hS hA
    refine va_calli (va_runV (As := [.int (xs 1)]) (rest := [.int 0]) ⟨hx, hb, hml, hown, hts⟩ (c_X11_count l dC dI cI cJ mh0 mq1 mq2 mq3 mq4 mq5 mq6 mq7 mq8 mq9 mq10 mq11 mq12 mq13 mq14 mq15 mq16 mq17 mq18 mq19 mq20 mq21 mq22 mq23 H.size (xs 1)) (cwV 1 hts (zgV qw1761 qw1762 qw1763 qw108 qw1764) rfl rfl rfl hd_X11_count ⟨Nat.le_of_ble_eq_true rfl, Nat.le_of_ble_eq_true rfl⟩) (zPV hPc hK hDc (va_recv hK hP (ci := 11) (q0 := 5) rfl rfl)) rfl rfl hl.1 rfl (lv_room (Nat.le_of_ble_eq_true rfl)) dL_law_1817 ⟨Nat.le_of_ble_eq_true rfl, Nat.le_of_ble_eq_true rfl⟩) hS (fun q _ h => hFc q h) hFc (fun r_18 u t H locs ht hvm hw hB hz1 hk1 hS => ?_)
    have hP := zkeep hP hk1
    rcases hw with ⟨c_18_0, rfl⟩ | ⟨c_18_0, rfl⟩ | ⟨c_18_0, rfl⟩ | ⟨c_18_0, rfl⟩ | ⟨c_18_0, rfl⟩ | ⟨c_18_0, rfl⟩ | ⟨c_18_0, rfl⟩ | ⟨c_18_0, rfl⟩ | ⟨c_18_0, rfl⟩ | ⟨c_18_0, rfl⟩ | ⟨c_18_0, rfl⟩
    · skip
      exfalso; omega
    · skip
      have i_18_0 : (xs 1).toInt = 0 := z5 rfl (by decide) c_18_0
      exfalso; omega
    · skip
      have i_18_0 : (xs 1).toInt = 1 := z5 rfl (by decide) c_18_0
      exfalso; omega
    · skip
      have i_18_0 : (xs 1).toInt = 2 := z5 rfl (by decide) c_18_0
      exfalso; omega
    · skip
      have i_18_0 : (xs 1).toInt = 3 := z5 rfl (by decide) c_18_0
      refine lv_icmp_eq (tgt := 1825) hx hb dL_law_1820 (by decide) (fun _ => ?_) (fun c => absurd (by decide) c)
      exact law_end C0 hS (lv_sub hl [0, 4] rfl)
    · skip
      have i_18_0 : (xs 1).toInt = 4 := z5 rfl (by decide) c_18_0
      exfalso; omega
    · skip
      have i_18_0 : (xs 1).toInt = 5 := z5 rfl (by decide) c_18_0
      exfalso; omega
    · skip
      have i_18_0 : (xs 1).toInt = 6 := z5 rfl (by decide) c_18_0
      exfalso; omega
    · skip
      have i_18_0 : (xs 1).toInt = 7 := z5 rfl (by decide) c_18_0
      exfalso; omega
    · skip
      have i_18_0 : (xs 1).toInt = 8 := z5 rfl (by decide) c_18_0
      exfalso; omega
    · skip
      have i_18_0 : (xs 1).toInt = 9 := z5 rfl (by decide) c_18_0
      exfalso; omega
  · skip
    have i_3_0 : (xs 1).toInt = 4 := z5 rfl (by decide) c_3_0
    refine lv_aload_n hx hb dL_law_1810 rfl (lv_at hl 2 rfl) ?_
    refine lv_aload_n hx hb dL_law_1811 rfl (lv_at hl 0 rfl) ?_
    refine lv_iload hx hb dL_law_1812 (lv_at hl 4 rfl) ?_
    refine lv_iconst (v := 1) hx hb dL_law_1814 (by decide) ?_
    refine lv_iadd hx hb dL_law_1815 ?_
    refine lv_topi (fun v_19 ev_19 => ?_)
    obtain rfl : v_19 = 1 := ev_19.trans (by decide)
    refine va_sld hx hb hX hbl hbA hS (by unfold vp_in; decide) dL_law_1816 ?_
    refine lv_topi (fun v_20 ev_20 => ?_)
    obtain rfl : v_20 = xs 1 := ev_20
    have hPc := hP.sub (ws' := [(mh0, .inr (11, [.int 0, .ref mq1, .int 0, .int 0, .int 0, .int 0, .ref mq2, .ref mq3, .ref mq4, .ref mq5, .ref mq6, .ref mq7, .ref mq8, .int 0, .int 0, .ref mq9, .ref mq10, .ref mq11, .ref mq12, .ref mq13, .int 0, .int 0, .ref mq14, .ref mq15, .ref mq16, .int 0, .int 0, .ref mq17, .ref mq18, .int (-1), .int 0, .ref mq19, .int 0, .long 0, .ref mq20, .int 0, .int 0, .ref mq21, .ref mq22, .ref mq23, .int 0])), (mq17, .inl (cI, 97, .inl (fun _ => 0)))]) [5, 6] rfl
    have hDc := hD.sub (ws' := [(mh0, .inr (11, [.int 0, .ref mq1, .int 0, .int 0, .int 0, .int 0, .ref mq2, .ref mq3, .ref mq4, .ref mq5, .ref mq6, .ref mq7, .ref mq8, .int 0, .int 0, .ref mq9, .ref mq10, .ref mq11, .ref mq12, .ref mq13, .int 0, .int 0, .ref mq14, .ref mq15, .ref mq16, .int 0, .int 0, .ref mq17, .ref mq18, .int (-1), .int 0, .ref mq19, .int 0, .long 0, .ref mq20, .int 0, .int 0, .ref mq21, .ref mq22, .ref mq23, .int 0])), (mq17, .inl (cI, 97, .inl (fun _ => 0)))]) [5, 6] (by decide) rfl
    have hFc := zfr hS hA
    refine va_calli (va_runV (As := [.int (xs 1)]) (rest := [.int (-1)]) ⟨hx, hb, hml, hown, hts⟩ (c_X11_count l dC dI cI cJ mh0 mq1 mq2 mq3 mq4 mq5 mq6 mq7 mq8 mq9 mq10 mq11 mq12 mq13 mq14 mq15 mq16 mq17 mq18 mq19 mq20 mq21 mq22 mq23 H.size (xs 1)) (cwV 1 hts (zgV qw1761 qw1762 qw1763 qw108 qw1764) rfl rfl rfl hd_X11_count ⟨Nat.le_of_ble_eq_true rfl, Nat.le_of_ble_eq_true rfl⟩) (zPV hPc hK hDc (va_recv hK hP (ci := 11) (q0 := 5) rfl rfl)) rfl rfl hl.1 rfl (lv_room (Nat.le_of_ble_eq_true rfl)) dL_law_1817 ⟨Nat.le_of_ble_eq_true rfl, Nat.le_of_ble_eq_true rfl⟩) hS (fun q _ h => hFc q h) hFc (fun r_21 u t H locs ht hvm hw hB hz1 hk1 hS => ?_)
    have hP := zkeep hP hk1
    rcases hw with ⟨c_21_0, rfl⟩ | ⟨c_21_0, rfl⟩ | ⟨c_21_0, rfl⟩ | ⟨c_21_0, rfl⟩ | ⟨c_21_0, rfl⟩ | ⟨c_21_0, rfl⟩ | ⟨c_21_0, rfl⟩ | ⟨c_21_0, rfl⟩ | ⟨c_21_0, rfl⟩ | ⟨c_21_0, rfl⟩ | ⟨c_21_0, rfl⟩
    · skip
      exfalso; omega
    · skip
      have i_21_0 : (xs 1).toInt = 0 := z5 rfl (by decide) c_21_0
      exfalso; omega
    · skip
      have i_21_0 : (xs 1).toInt = 1 := z5 rfl (by decide) c_21_0
      exfalso; omega
    · skip
      have i_21_0 : (xs 1).toInt = 2 := z5 rfl (by decide) c_21_0
      exfalso; omega
    · skip
      have i_21_0 : (xs 1).toInt = 3 := z5 rfl (by decide) c_21_0
      exfalso; omega
    · skip
      have i_21_0 : (xs 1).toInt = 4 := z5 rfl (by decide) c_21_0
      refine lv_icmp_eq (tgt := 1825) hx hb dL_law_1820 (by decide) (fun _ => ?_) (fun c => absurd (by decide) c)
      exact law_end C0 hS (lv_sub hl [0, 4] rfl)
    · skip
      have i_21_0 : (xs 1).toInt = 5 := z5 rfl (by decide) c_21_0
      exfalso; omega
    · skip
      have i_21_0 : (xs 1).toInt = 6 := z5 rfl (by decide) c_21_0
      exfalso; omega
    · skip
      have i_21_0 : (xs 1).toInt = 7 := z5 rfl (by decide) c_21_0
      exfalso; omega
    · skip
      have i_21_0 : (xs 1).toInt = 8 := z5 rfl (by decide) c_21_0
      exfalso; omega
    · skip
      have i_21_0 : (xs 1).toInt = 9 := z5 rfl (by decide) c_21_0
      exfalso; omega
  · skip
    have i_3_0 : (xs 1).toInt = 5 := z5 rfl (by decide) c_3_0
    refine lv_aload_n hx hb dL_law_1810 rfl (lv_at hl 2 rfl) ?_
    refine lv_aload_n hx hb dL_law_1811 rfl (lv_at hl 0 rfl) ?_
    refine lv_iload hx hb dL_law_1812 (lv_at hl 4 rfl) ?_
    refine lv_iconst (v := 1) hx hb dL_law_1814 (by decide) ?_
    refine lv_iadd hx hb dL_law_1815 ?_
    refine lv_topi (fun v_22 ev_22 => ?_)
    obtain rfl : v_22 = 1 := ev_22.trans (by decide)
    refine va_sld hx hb hX hbl hbA hS (by unfold vp_in; decide) dL_law_1816 ?_
    refine lv_topi (fun v_23 ev_23 => ?_)
    obtain rfl : v_23 = xs 1 := ev_23
    have hPc := hP.sub (ws' := [(mh0, .inr (11, [.int 0, .ref mq1, .int 0, .int 0, .int 0, .int 0, .ref mq2, .ref mq3, .ref mq4, .ref mq5, .ref mq6, .ref mq7, .ref mq8, .int 0, .int 0, .ref mq9, .ref mq10, .ref mq11, .ref mq12, .ref mq13, .int 0, .int 0, .ref mq14, .ref mq15, .ref mq16, .int 0, .int 0, .ref mq17, .ref mq18, .int (-1), .int 0, .ref mq19, .int 0, .long 0, .ref mq20, .int 0, .int 0, .ref mq21, .ref mq22, .ref mq23, .int 0])), (mq17, .inl (cI, 97, .inl (fun _ => 0)))]) [5, 6] rfl
    have hDc := hD.sub (ws' := [(mh0, .inr (11, [.int 0, .ref mq1, .int 0, .int 0, .int 0, .int 0, .ref mq2, .ref mq3, .ref mq4, .ref mq5, .ref mq6, .ref mq7, .ref mq8, .int 0, .int 0, .ref mq9, .ref mq10, .ref mq11, .ref mq12, .ref mq13, .int 0, .int 0, .ref mq14, .ref mq15, .ref mq16, .int 0, .int 0, .ref mq17, .ref mq18, .int (-1), .int 0, .ref mq19, .int 0, .long 0, .ref mq20, .int 0, .int 0, .ref mq21, .ref mq22, .ref mq23, .int 0])), (mq17, .inl (cI, 97, .inl (fun _ => 0)))]) [5, 6] (by decide) rfl
    have hFc := zfr hS hA
    refine va_calli (va_runV (As := [.int (xs 1)]) (rest := [.int 0]) ⟨hx, hb, hml, hown, hts⟩ (c_X11_count l dC dI cI cJ mh0 mq1 mq2 mq3 mq4 mq5 mq6 mq7 mq8 mq9 mq10 mq11 mq12 mq13 mq14 mq15 mq16 mq17 mq18 mq19 mq20 mq21 mq22 mq23 H.size (xs 1)) (cwV 1 hts (zgV qw1761 qw1762 qw1763 qw108 qw1764) rfl rfl rfl hd_X11_count ⟨Nat.le_of_ble_eq_true rfl, Nat.le_of_ble_eq_true rfl⟩) (zPV hPc hK hDc (va_recv hK hP (ci := 11) (q0 := 5) rfl rfl)) rfl rfl hl.1 rfl (lv_room (Nat.le_of_ble_eq_true rfl)) dL_law_1817 ⟨Nat.le_of_ble_eq_true rfl, Nat.le_of_ble_eq_true rfl⟩) hS (fun q _ h => hFc q h) hFc (fun r_24 u t H locs ht hvm hw hB hz1 hk1 hS => ?_)
    have hP := zkeep hP hk1
    rcases hw with ⟨c_24_0, rfl⟩ | ⟨c_24_0, rfl⟩ | ⟨c_24_0, rfl⟩ | ⟨c_24_0, rfl⟩ | ⟨c_24_0, rfl⟩ | ⟨c_24_0, rfl⟩ | ⟨c_24_0, rfl⟩ | ⟨c_24_0, rfl⟩ | ⟨c_24_0, rfl⟩ | ⟨c_24_0, rfl⟩ | ⟨c_24_0, rfl⟩
    · skip
      exfalso; omega
    · skip
      have i_24_0 : (xs 1).toInt = 0 := z5 rfl (by decide) c_24_0
      exfalso; omega
    · skip
      have i_24_0 : (xs 1).toInt = 1 := z5 rfl (by decide) c_24_0
      exfalso; omega
    · skip
      have i_24_0 : (xs 1).toInt = 2 := z5 rfl (by decide) c_24_0
      exfalso; omega
    · skip
      have i_24_0 : (xs 1).toInt = 3 := z5 rfl (by decide) c_24_0
      exfalso; omega
    · skip
      have i_24_0 : (xs 1).toInt = 4 := z5 rfl (by decide) c_24_0
      exfalso; omega
    · skip
      have i_24_0 : (xs 1).toInt = 5 := z5 rfl (by decide) c_24_0
      refine lv_icmp_eq (tgt := 1825) hx hb dL_law_1820 (by decide) (fun _ => ?_) (fun c => absurd (by decide) c)
      exact law_end C0 hS (lv_sub hl [0, 4] rfl)
    · skip
      have i_24_0 : (xs 1).toInt = 6 := z5 rfl (by decide) c_24_0
      exfalso; omega
    · skip
      have i_24_0 : (xs 1).toInt = 7 := z5 rfl (by decide) c_24_0
      exfalso; omega
    · skip
      have i_24_0 : (xs 1).toInt = 8 := z5 rfl (by decide) c_24_0
      exfalso; omega
    · skip
      have i_24_0 : (xs 1).toInt = 9 := z5 rfl (by decide) c_24_0
      exfalso; omega
  · skip
    have i_3_0 : (xs 1).toInt = 6 := z5 rfl (by decide) c_3_0
    refine lv_aload_n hx hb dL_law_1810 rfl (lv_at hl 2 rfl) ?_
    refine lv_aload_n hx hb dL_law_1811 rfl (lv_at hl 0 rfl) ?_
    refine lv_iload hx hb dL_law_1812 (lv_at hl 4 rfl) ?_
    refine lv_iconst (v := 1) hx hb dL_law_1814 (by decide) ?_
    refine lv_iadd hx hb dL_law_1815 ?_
    refine lv_topi (fun v_25 ev_25 => ?_)
    obtain rfl : v_25 = 1 := ev_25.trans (by decide)
    refine va_sld hx hb hX hbl hbA hS (by unfold vp_in; decide) dL_law_1816 ?_
    refine lv_topi (fun v_26 ev_26 => ?_)
    obtain rfl : v_26 = xs 1 := ev_26
    have hPc := hP.sub (ws' := [(mh0, .inr (11, [.int 0, .ref mq1, .int 0, .int 0, .int 0, .int 0, .ref mq2, .ref mq3, .ref mq4, .ref mq5, .ref mq6, .ref mq7, .ref mq8, .int 0, .int 0, .ref mq9, .ref mq10, .ref mq11, .ref mq12, .ref mq13, .int 0, .int 0, .ref mq14, .ref mq15, .ref mq16, .int 0, .int 0, .ref mq17, .ref mq18, .int (-1), .int 0, .ref mq19, .int 0, .long 0, .ref mq20, .int 0, .int 0, .ref mq21, .ref mq22, .ref mq23, .int 0])), (mq17, .inl (cI, 97, .inl (fun _ => 0)))]) [5, 6] rfl
    have hDc := hD.sub (ws' := [(mh0, .inr (11, [.int 0, .ref mq1, .int 0, .int 0, .int 0, .int 0, .ref mq2, .ref mq3, .ref mq4, .ref mq5, .ref mq6, .ref mq7, .ref mq8, .int 0, .int 0, .ref mq9, .ref mq10, .ref mq11, .ref mq12, .ref mq13, .int 0, .int 0, .ref mq14, .ref mq15, .ref mq16, .int 0, .int 0, .ref mq17, .ref mq18, .int (-1), .int 0, .ref mq19, .int 0, .long 0, .ref mq20, .int 0, .int 0, .ref mq21, .ref mq22, .ref mq23, .int 0])), (mq17, .inl (cI, 97, .inl (fun _ => 0)))]) [5, 6] (by decide) rfl
    have hFc := zfr hS hA
    refine va_calli (va_runV (As := [.int (xs 1)]) (rest := [.int (-1)]) ⟨hx, hb, hml, hown, hts⟩ (c_X11_count l dC dI cI cJ mh0 mq1 mq2 mq3 mq4 mq5 mq6 mq7 mq8 mq9 mq10 mq11 mq12 mq13 mq14 mq15 mq16 mq17 mq18 mq19 mq20 mq21 mq22 mq23 H.size (xs 1)) (cwV 1 hts (zgV qw1761 qw1762 qw1763 qw108 qw1764) rfl rfl rfl hd_X11_count ⟨Nat.le_of_ble_eq_true rfl, Nat.le_of_ble_eq_true rfl⟩) (zPV hPc hK hDc (va_recv hK hP (ci := 11) (q0 := 5) rfl rfl)) rfl rfl hl.1 rfl (lv_room (Nat.le_of_ble_eq_true rfl)) dL_law_1817 ⟨Nat.le_of_ble_eq_true rfl, Nat.le_of_ble_eq_true rfl⟩) hS (fun q _ h => hFc q h) hFc (fun r_27 u t H locs ht hvm hw hB hz1 hk1 hS => ?_)
    have hP := zkeep hP hk1
    rcases hw with ⟨c_27_0, rfl⟩ | ⟨c_27_0, rfl⟩ | ⟨c_27_0, rfl⟩ | ⟨c_27_0, rfl⟩ | ⟨c_27_0, rfl⟩ | ⟨c_27_0, rfl⟩ | ⟨c_27_0, rfl⟩ | ⟨c_27_0, rfl⟩ | ⟨c_27_0, rfl⟩ | ⟨c_27_0, rfl⟩ | ⟨c_27_0, rfl⟩
    · skip
      exfalso; omega
    · skip
      have i_27_0 : (xs 1).toInt = 0 := z5 rfl (by decide) c_27_0
      exfalso; omega
    · skip
      have i_27_0 : (xs 1).toInt = 1 := z5 rfl (by decide) c_27_0
      exfalso; omega
    · skip
      have i_27_0 : (xs 1).toInt = 2 := z5 rfl (by decide) c_27_0
      exfalso; omega
    · skip
      have i_27_0 : (xs 1).toInt = 3 := z5 rfl (by decide) c_27_0
      exfalso; omega
    · skip
      have i_27_0 : (xs 1).toInt = 4 := z5 rfl (by decide) c_27_0
      exfalso; omega
    · skip
      have i_27_0 : (xs 1).toInt = 5 := z5 rfl (by decide) c_27_0
      exfalso; omega
    · skip
      have i_27_0 : (xs 1).toInt = 6 := z5 rfl (by decide) c_27_0
      refine lv_icmp_eq (tgt := 1825) hx hb dL_law_1820 (by decide) (fun _ => ?_) (fun c => absurd (by decide) c)
      exact law_end C0 hS (lv_sub hl [0, 4] rfl)
    · skip
      have i_27_0 : (xs 1).toInt = 7 := z5 rfl (by decide) c_27_0
      exfalso; omega
    · skip
      have i_27_0 : (xs 1).toInt = 8 := z5 rfl (by decide) c_27_0
      exfalso; omega
    · skip
      have i_27_0 : (xs 1).toInt = 9 := z5 rfl (by decide) c_27_0
      exfalso; omega
  · skip
    have i_3_0 : (xs 1).toInt = 7 := z5 rfl (by decide) c_3_0
    refine lv_aload_n hx hb dL_law_1810 rfl (lv_at hl 2 rfl) ?_
    refine lv_aload_n hx hb dL_law_1811 rfl (lv_at hl 0 rfl) ?_
    refine lv_iload hx hb dL_law_1812 (lv_at hl 4 rfl) ?_
    refine lv_iconst (v := 1) hx hb dL_law_1814 (by decide) ?_
    refine lv_iadd hx hb dL_law_1815 ?_
    refine lv_topi (fun v_28 ev_28 => ?_)
    obtain rfl : v_28 = 1 := ev_28.trans (by decide)
    refine va_sld hx hb hX hbl hbA hS (by unfold vp_in; decide) dL_law_1816 ?_
    refine lv_topi (fun v_29 ev_29 => ?_)
    obtain rfl : v_29 = xs 1 := ev_29
    have hPc := hP.sub (ws' := [(mh0, .inr (11, [.int 0, .ref mq1, .int 0, .int 0, .int 0, .int 0, .ref mq2, .ref mq3, .ref mq4, .ref mq5, .ref mq6, .ref mq7, .ref mq8, .int 0, .int 0, .ref mq9, .ref mq10, .ref mq11, .ref mq12, .ref mq13, .int 0, .int 0, .ref mq14, .ref mq15, .ref mq16, .int 0, .int 0, .ref mq17, .ref mq18, .int (-1), .int 0, .ref mq19, .int 0, .long 0, .ref mq20, .int 0, .int 0, .ref mq21, .ref mq22, .ref mq23, .int 0])), (mq17, .inl (cI, 97, .inl (fun _ => 0)))]) [5, 6] rfl
    have hDc := hD.sub (ws' := [(mh0, .inr (11, [.int 0, .ref mq1, .int 0, .int 0, .int 0, .int 0, .ref mq2, .ref mq3, .ref mq4, .ref mq5, .ref mq6, .ref mq7, .ref mq8, .int 0, .int 0, .ref mq9, .ref mq10, .ref mq11, .ref mq12, .ref mq13, .int 0, .int 0, .ref mq14, .ref mq15, .ref mq16, .int 0, .int 0, .ref mq17, .ref mq18, .int (-1), .int 0, .ref mq19, .int 0, .long 0, .ref mq20, .int 0, .int 0, .ref mq21, .ref mq22, .ref mq23, .int 0])), (mq17, .inl (cI, 97, .inl (fun _ => 0)))]) [5, 6] (by decide) rfl
    have hFc := zfr hS hA
    refine va_calli (va_runV (As := [.int (xs 1)]) (rest := [.int 0]) ⟨hx, hb, hml, hown, hts⟩ (c_X11_count l dC dI cI cJ mh0 mq1 mq2 mq3 mq4 mq5 mq6 mq7 mq8 mq9 mq10 mq11 mq12 mq13 mq14 mq15 mq16 mq17 mq18 mq19 mq20 mq21 mq22 mq23 H.size (xs 1)) (cwV 1 hts (zgV qw1761 qw1762 qw1763 qw108 qw1764) rfl rfl rfl hd_X11_count ⟨Nat.le_of_ble_eq_true rfl, Nat.le_of_ble_eq_true rfl⟩) (zPV hPc hK hDc (va_recv hK hP (ci := 11) (q0 := 5) rfl rfl)) rfl rfl hl.1 rfl (lv_room (Nat.le_of_ble_eq_true rfl)) dL_law_1817 ⟨Nat.le_of_ble_eq_true rfl, Nat.le_of_ble_eq_true rfl⟩) hS (fun q _ h => hFc q h) hFc (fun r_30 u t H locs ht hvm hw hB hz1 hk1 hS => ?_)
    have hP := zkeep hP hk1
    rcases hw with ⟨c_30_0, rfl⟩ | ⟨c_30_0, rfl⟩ | ⟨c_30_0, rfl⟩ | ⟨c_30_0, rfl⟩ | ⟨c_30_0, rfl⟩ | ⟨c_30_0, rfl⟩ | ⟨c_30_0, rfl⟩ | ⟨c_30_0, rfl⟩ | ⟨c_30_0, rfl⟩ | ⟨c_30_0, rfl⟩ | ⟨c_30_0, rfl⟩
    · skip
      exfalso; omega
    · skip
      have i_30_0 : (xs 1).toInt = 0 := z5 rfl (by decide) c_30_0
      exfalso; omega
    · skip
      have i_30_0 : (xs 1).toInt = 1 := z5 rfl (by decide) c_30_0
      exfalso; omega
    · skip
      have i_30_0 : (xs 1).toInt = 2 := z5 rfl (by decide) c_30_0
      exfalso; omega
    · skip
      have i_30_0 : (xs 1).toInt = 3 := z5 rfl (by decide) c_30_0
      exfalso; omega
    · skip
      have i_30_0 : (xs 1).toInt = 4 := z5 rfl (by decide) c_30_0
      exfalso; omega
    · skip
      have i_30_0 : (xs 1).toInt = 5 := z5 rfl (by decide) c_30_0
      exfalso; omega
    · skip
      have i_30_0 : (xs 1).toInt = 6 := z5 rfl (by decide) c_30_0
      exfalso; omega
    · skip
      have i_30_0 : (xs 1).toInt = 7 := z5 rfl (by decide) c_30_0
      refine lv_icmp_eq (tgt := 1825) hx hb dL_law_1820 (by decide) (fun _ => ?_) (fun c => absurd (by decide) c)
      exact law_end C0 hS (lv_sub hl [0, 4] rfl)
    · skip
      have i_30_0 : (xs 1).toInt = 8 := z5 rfl (by decide) c_30_0
      exfalso; omega
    · skip
      have i_30_0 : (xs 1).toInt = 9 := z5 rfl (by decide) c_30_0
      exfalso; omega
  · skip
    have i_3_0 : (xs 1).toInt = 8 := z5 rfl (by decide) c_3_0
    refine lv_aload_n hx hb dL_law_1810 rfl (lv_at hl 2 rfl) ?_
    refine lv_aload_n hx hb dL_law_1811 rfl (lv_at hl 0 rfl) ?_
    refine lv_iload hx hb dL_law_1812 (lv_at hl 4 rfl) ?_
    refine lv_iconst (v := 1) hx hb dL_law_1814 (by decide) ?_
    refine lv_iadd hx hb dL_law_1815 ?_
    refine lv_topi (fun v_31 ev_31 => ?_)
    obtain rfl : v_31 = 1 := ev_31.trans (by decide)
    refine va_sld hx hb hX hbl hbA hS (by unfold vp_in; decide) dL_law_1816 ?_
    refine lv_topi (fun v_32 ev_32 => ?_)
    obtain rfl : v_32 = xs 1 := ev_32
    have hPc := hP.sub (ws' := [(mh0, .inr (11, [.int 0, .ref mq1, .int 0, .int 0, .int 0, .int 0, .ref mq2, .ref mq3, .ref mq4, .ref mq5, .ref mq6, .ref mq7, .ref mq8, .int 0, .int 0, .ref mq9, .ref mq10, .ref mq11, .ref mq12, .ref mq13, .int 0, .int 0, .ref mq14, .ref mq15, .ref mq16, .int 0, .int 0, .ref mq17, .ref mq18, .int (-1), .int 0, .ref mq19, .int 0, .long 0, .ref mq20, .int 0, .int 0, .ref mq21, .ref mq22, .ref mq23, .int 0])), (mq17, .inl (cI, 97, .inl (fun _ => 0)))]) [5, 6] rfl
    have hDc := hD.sub (ws' := [(mh0, .inr (11, [.int 0, .ref mq1, .int 0, .int 0, .int 0, .int 0, .ref mq2, .ref mq3, .ref mq4, .ref mq5, .ref mq6, .ref mq7, .ref mq8, .int 0, .int 0, .ref mq9, .ref mq10, .ref mq11, .ref mq12, .ref mq13, .int 0, .int 0, .ref mq14, .ref mq15, .ref mq16, .int 0, .int 0, .ref mq17, .ref mq18, .int (-1), .int 0, .ref mq19, .int 0, .long 0, .ref mq20, .int 0, .int 0, .ref mq21, .ref mq22, .ref mq23, .int 0])), (mq17, .inl (cI, 97, .inl (fun _ => 0)))]) [5, 6] (by decide) rfl
    have hFc := zfr hS hA
    refine va_calli (va_runV (As := [.int (xs 1)]) (rest := [.int 0]) ⟨hx, hb, hml, hown, hts⟩ (c_X11_count l dC dI cI cJ mh0 mq1 mq2 mq3 mq4 mq5 mq6 mq7 mq8 mq9 mq10 mq11 mq12 mq13 mq14 mq15 mq16 mq17 mq18 mq19 mq20 mq21 mq22 mq23 H.size (xs 1)) (cwV 1 hts (zgV qw1761 qw1762 qw1763 qw108 qw1764) rfl rfl rfl hd_X11_count ⟨Nat.le_of_ble_eq_true rfl, Nat.le_of_ble_eq_true rfl⟩) (zPV hPc hK hDc (va_recv hK hP (ci := 11) (q0 := 5) rfl rfl)) rfl rfl hl.1 rfl (lv_room (Nat.le_of_ble_eq_true rfl)) dL_law_1817 ⟨Nat.le_of_ble_eq_true rfl, Nat.le_of_ble_eq_true rfl⟩) hS (fun q _ h => hFc q h) hFc (fun r_33 u t H locs ht hvm hw hB hz1 hk1 hS => ?_)
    have hP := zkeep hP hk1
    rcases hw with ⟨c_33_0, rfl⟩ | ⟨c_33_0, rfl⟩ | ⟨c_33_0, rfl⟩ | ⟨c_33_0, rfl⟩ | ⟨c_33_0, rfl⟩ | ⟨c_33_0, rfl⟩ | ⟨c_33_0, rfl⟩ | ⟨c_33_0, rfl⟩ | ⟨c_33_0, rfl⟩ | ⟨c_33_0, rfl⟩ | ⟨c_33_0, rfl⟩
    · skip
      exfalso; omega
    · skip
      have i_33_0 : (xs 1).toInt = 0 := z5 rfl (by decide) c_33_0
      exfalso; omega
    · skip
      have i_33_0 : (xs 1).toInt = 1 := z5 rfl (by decide) c_33_0
      exfalso; omega
    · skip
      have i_33_0 : (xs 1).toInt = 2 := z5 rfl (by decide) c_33_0
      exfalso; omega
    · skip
      have i_33_0 : (xs 1).toInt = 3 := z5 rfl (by decide) c_33_0
      exfalso; omega
    · skip
      have i_33_0 : (xs 1).toInt = 4 := z5 rfl (by decide) c_33_0
      exfalso; omega
    · skip
      have i_33_0 : (xs 1).toInt = 5 := z5 rfl (by decide) c_33_0
      exfalso; omega
    · skip
      have i_33_0 : (xs 1).toInt = 6 := z5 rfl (by decide) c_33_0
      exfalso; omega
    · skip
      have i_33_0 : (xs 1).toInt = 7 := z5 rfl (by decide) c_33_0
      exfalso; omega
    · skip
      have i_33_0 : (xs 1).toInt = 8 := z5 rfl (by decide) c_33_0
      refine lv_icmp_eq (tgt := 1825) hx hb dL_law_1820 (by decide) (fun _ => ?_) (fun c => absurd (by decide) c)
      exact law_end C0 hS (lv_sub hl [0, 4] rfl)
    · skip
      have i_33_0 : (xs 1).toInt = 9 := z5 rfl (by decide) c_33_0
      exfalso; omega
  · skip
    have i_3_0 : (xs 1).toInt = 9 := z5 rfl (by decide) c_3_0
    refine lv_aload_n hx hb dL_law_1810 rfl (lv_at hl 2 rfl) ?_
    refine lv_aload_n hx hb dL_law_1811 rfl (lv_at hl 0 rfl) ?_
    refine lv_iload hx hb dL_law_1812 (lv_at hl 4 rfl) ?_
    refine lv_iconst (v := 1) hx hb dL_law_1814 (by decide) ?_
    refine lv_iadd hx hb dL_law_1815 ?_
    refine lv_topi (fun v_34 ev_34 => ?_)
    obtain rfl : v_34 = 1 := ev_34.trans (by decide)
    refine va_sld hx hb hX hbl hbA hS (by unfold vp_in; decide) dL_law_1816 ?_
    refine lv_topi (fun v_35 ev_35 => ?_)
    obtain rfl : v_35 = xs 1 := ev_35
    have hPc := hP.sub (ws' := [(mh0, .inr (11, [.int 0, .ref mq1, .int 0, .int 0, .int 0, .int 0, .ref mq2, .ref mq3, .ref mq4, .ref mq5, .ref mq6, .ref mq7, .ref mq8, .int 0, .int 0, .ref mq9, .ref mq10, .ref mq11, .ref mq12, .ref mq13, .int 0, .int 0, .ref mq14, .ref mq15, .ref mq16, .int 0, .int 0, .ref mq17, .ref mq18, .int (-1), .int 0, .ref mq19, .int 0, .long 0, .ref mq20, .int 0, .int 0, .ref mq21, .ref mq22, .ref mq23, .int 0])), (mq17, .inl (cI, 97, .inl (fun _ => 0)))]) [5, 6] rfl
    have hDc := hD.sub (ws' := [(mh0, .inr (11, [.int 0, .ref mq1, .int 0, .int 0, .int 0, .int 0, .ref mq2, .ref mq3, .ref mq4, .ref mq5, .ref mq6, .ref mq7, .ref mq8, .int 0, .int 0, .ref mq9, .ref mq10, .ref mq11, .ref mq12, .ref mq13, .int 0, .int 0, .ref mq14, .ref mq15, .ref mq16, .int 0, .int 0, .ref mq17, .ref mq18, .int (-1), .int 0, .ref mq19, .int 0, .long 0, .ref mq20, .int 0, .int 0, .ref mq21, .ref mq22, .ref mq23, .int 0])), (mq17, .inl (cI, 97, .inl (fun _ => 0)))]) [5, 6] (by decide) rfl
    have hFc := zfr hS hA
    refine va_calli (va_runV (As := [.int (xs 1)]) (rest := [.int 0]) ⟨hx, hb, hml, hown, hts⟩ (c_X11_count l dC dI cI cJ mh0 mq1 mq2 mq3 mq4 mq5 mq6 mq7 mq8 mq9 mq10 mq11 mq12 mq13 mq14 mq15 mq16 mq17 mq18 mq19 mq20 mq21 mq22 mq23 H.size (xs 1)) (cwV 1 hts (zgV qw1761 qw1762 qw1763 qw108 qw1764) rfl rfl rfl hd_X11_count ⟨Nat.le_of_ble_eq_true rfl, Nat.le_of_ble_eq_true rfl⟩) (zPV hPc hK hDc (va_recv hK hP (ci := 11) (q0 := 5) rfl rfl)) rfl rfl hl.1 rfl (lv_room (Nat.le_of_ble_eq_true rfl)) dL_law_1817 ⟨Nat.le_of_ble_eq_true rfl, Nat.le_of_ble_eq_true rfl⟩) hS (fun q _ h => hFc q h) hFc (fun r_36 u t H locs ht hvm hw hB hz1 hk1 hS => ?_)
    have hP := zkeep hP hk1
    rcases hw with ⟨c_36_0, rfl⟩ | ⟨c_36_0, rfl⟩ | ⟨c_36_0, rfl⟩ | ⟨c_36_0, rfl⟩ | ⟨c_36_0, rfl⟩ | ⟨c_36_0, rfl⟩ | ⟨c_36_0, rfl⟩ | ⟨c_36_0, rfl⟩ | ⟨c_36_0, rfl⟩ | ⟨c_36_0, rfl⟩ | ⟨c_36_0, rfl⟩
    · skip
      exfalso; omega
    · skip
      have i_36_0 : (xs 1).toInt = 0 := z5 rfl (by decide) c_36_0
      exfalso; omega
    · skip
      have i_36_0 : (xs 1).toInt = 1 := z5 rfl (by decide) c_36_0
      exfalso; omega
    · skip
      have i_36_0 : (xs 1).toInt = 2 := z5 rfl (by decide) c_36_0
      exfalso; omega
    · skip
      have i_36_0 : (xs 1).toInt = 3 := z5 rfl (by decide) c_36_0
      exfalso; omega
    · skip
      have i_36_0 : (xs 1).toInt = 4 := z5 rfl (by decide) c_36_0
      exfalso; omega
    · skip
      have i_36_0 : (xs 1).toInt = 5 := z5 rfl (by decide) c_36_0
      exfalso; omega
    · skip
      have i_36_0 : (xs 1).toInt = 6 := z5 rfl (by decide) c_36_0
      exfalso; omega
    · skip
      have i_36_0 : (xs 1).toInt = 7 := z5 rfl (by decide) c_36_0
      exfalso; omega
    · skip
      have i_36_0 : (xs 1).toInt = 8 := z5 rfl (by decide) c_36_0
      exfalso; omega
    · skip
      have i_36_0 : (xs 1).toInt = 9 := z5 rfl (by decide) c_36_0
      refine lv_icmp_eq (tgt := 1825) hx hb dL_law_1820 (by decide) (fun _ => ?_) (fun c => absurd (by decide) c)
      exact law_end C0 hS (lv_sub hl [0, 4] rfl)
