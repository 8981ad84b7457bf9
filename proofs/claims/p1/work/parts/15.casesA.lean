set_option maxHeartbeats 4000000 in
set_option maxRecDepth 100000 in
theorem law_case_0 {p : Program} {l : Launch} {e : Env} {s : State} {m : MethodId} {below : List Frame} {meth : Method} {c : Code} {b : Nat} {xs : Nat → Int32} {dC : Nat → ClassId} {dI : Nat → Nat → Nat} {cI cJ : ClassId} {xh0 mh0 o0 xq1 xq4 xq6 xq9 xq14 xq19 xq20 xq25 xq30 xq33 xq39 xq45 xq47 xq3 mq1 mq2 mq3 mq4 mq5 mq6 mq7 mq8 mq9 mq10 mq11 mq12 mq13 mq14 mq15 mq16 mq17 mq18 mq19 mq20 mq21 mq22 mq23 g0 : Nat} (hl0 : l.stackTraces = false) (C0 : lw_At p s m meth c b 7 xs) (hK : va_K (dC, dI) vwCl [(cI, .int), (cJ, .long)] s) (hF : zF g0 (fun q : Nat => s.heap.size ≤ q) s) (hG : zG (fun q : Nat => s.heap.size ≤ q) s) {H : Heap} {locs : List Loc} (hP : va_P (dC, dI) vwCl [(xh0, .inr (10, [.ref xq1, .ref xq4, .ref xq6, .ref xq9, .ref xq14, .ref xq19, .ref xq20, .ref xq25, .ref xq30, .ref xq33, .ref xq39, .ref xq45, .ref xq47, .int 0, .int (-1), .int 0, .int 0])), (xq1, .inr (9, [.ref xq3, .int 0, .int 0])), (xq3, .inl (cI, 260, .inl (fun _ => 0))), (mh0, .inr (11, [.int 0, .ref mq1, .int 0, .int 0, .int 0, .int 0, .ref mq2, .ref mq3, .ref mq4, .ref mq5, .ref mq6, .ref mq7, .ref mq8, .int 0, .int 0, .ref mq9, .ref mq10, .ref mq11, .ref mq12, .ref mq13, .int 0, .int 0, .ref mq14, .ref mq15, .ref mq16, .int 0, .int 0, .ref mq17, .ref mq18, .int (-1), .int 0, .ref mq19, .int 0, .long 0, .ref mq20, .int 0, .int 0, .ref mq21, .ref mq22, .ref mq23, .int 0])), (mq1, .inl (cI, 240, .inl (fun _ => 0)))] H) (hD : va_D (fun q : Nat => s.heap.size ≤ q) [(xh0, .inr (10, [.ref xq1, .ref xq4, .ref xq6, .ref xq9, .ref xq14, .ref xq19, .ref xq20, .ref xq25, .ref xq30, .ref xq33, .ref xq39, .ref xq45, .ref xq47, .int 0, .int (-1), .int 0, .int 0])), (xq1, .inr (9, [.ref xq3, .int 0, .int 0])), (xq3, .inl (cI, 260, .inl (fun _ => 0))), (mh0, .inr (11, [.int 0, .ref mq1, .int 0, .int 0, .int 0, .int 0, .ref mq2, .ref mq3, .ref mq4, .ref mq5, .ref mq6, .ref mq7, .ref mq8, .int 0, .int 0, .ref mq9, .ref mq10, .ref mq11, .ref mq12, .ref mq13, .int 0, .int 0, .ref mq14, .ref mq15, .ref mq16, .int 0, .int 0, .ref mq17, .ref mq18, .int (-1), .int 0, .ref mq19, .int 0, .long 0, .ref mq20, .int 0, .int 0, .ref mq21, .ref mq22, .ref mq23, .int 0])), (mq1, .inl (cI, 240, .inl (fun _ => 0)))]) (hS : va_S (fun q : Nat => s.heap.size ≤ q) s.heap H locs) {ls : Array Slot} (hl : lv_has ls 7 [(0, .ref b), (1, .ref xh0), (2, .ref mh0), (3, .ref o0), (4, .int 0)]) : W p l e room_1 s m #[Value.ref b] below meth c H locs 62 13545 (lw_Z below #[Value.ref b] s) (F0 m 248 ls []) := by
  obtain ⟨hx, hb, hr, hml, hown, hts0, hX, hbl, hlocks, hgv⟩ := id C0
  have hts : ∀ w ∈ wA, w.before #[Value.ref b] s = true := fun w h => hts0 w (List.mem_filter.mp h).1
  have hown : s.vm.findClass RL = some m.cls := hown
  have hA : ∀ q : Nat, s.heap.size ≤ q → (fun q : Nat => s.heap.size ≤ q) q := fun _ h => h
  have hbA : ¬ (fun q : Nat => s.heap.size ≤ q) b := Nat.not_le.mpr hbl
  refine lv_aload_n hx hb dL_law_248 rfl (lv_at hl 1 rfl) ?_
  refine lv_aload_n hx hb dL_law_249 rfl (lv_at hl 0 rfl) ?_
  refine lv_iload hx hb dL_law_250 (lv_at hl 4 rfl) ?_
  refine lv_iconst (v := 1) hx hb dL_law_252 (by decide) ?_
  refine lv_iadd hx hb dL_law_253 ?_
  refine lv_topi (fun v_1 ev_1 => ?_)
  obtain rfl : v_1 = 1 := ev_1.trans (by decide)
  refine va_sld hx hb hX hbl hbA hS (by unfold vp_in; decide) dL_law_254 ?_
  refine lv_topi (fun v_2 ev_2 => ?_)
  obtain rfl : v_2 = xs 1 := ev_2
  refine lv_aload_n hx hb dL_law_255 rfl (lv_at hl 0 rfl) ?_
  refine lv_iload hx hb dL_law_256 (lv_at hl 4 rfl) ?_
  refine lv_iconst (v := 2) hx hb dL_law_258 (by decide) ?_
  refine lv_iadd hx hb dL_law_259 ?_
  refine lv_topi (fun v_3 ev_3 => ?_)
  obtain rfl : v_3 = 2 := ev_3.trans (by decide)
  refine va_sld hx hb hX hbl hbA hS (by unfold vp_in; decide) dL_law_260 ?_
  refine lv_topi (fun v_4 ev_4 => ?_)
  obtain rfl : v_4 = xs 2 := ev_4
  refine lv_aload_n hx hb dL_law_261 rfl (lv_at hl 0 rfl) ?_
  refine lv_iload hx hb dL_law_262 (lv_at hl 4 rfl) ?_
  refine lv_iconst (v := 3) hx hb dL_law_264 (by decide) ?_
  refine lv_iadd hx hb dL_law_265 ?_
  refine lv_topi (fun v_5 ev_5 => ?_)
  obtain rfl : v_5 = 3 := ev_5.trans (by decide)
  refine va_sld hx hb hX hbl hbA hS (by unfold vp_in; decide) dL_law_266 ?_
  refine lv_topi (fun v_6 ev_6 => ?_)
  obtain rfl : v_6 = xs 3 := ev_6
  refine lv_aload_n hx hb dL_law_267 rfl (lv_at hl 0 rfl) ?_
  refine lv_iload hx hb dL_law_268 (lv_at hl 4 rfl) ?_
  refine lv_iconst (v := 4) hx hb dL_law_270 (by decide) ?_
  refine lv_iadd hx hb dL_law_271 ?_
  refine lv_topi (fun v_7 ev_7 => ?_)
  obtain rfl : v_7 = 4 := ev_7.trans (by decide)
  refine va_sld hx hb hX hbl hbA hS (by unfold vp_in; decide) dL_law_272 ?_
  refine lv_topi (fun v_8 ev_8 => ?_)
  obtain rfl : v_8 = xs 4 := ev_8
  refine lv_aload_n hx hb dL_law_273 rfl (lv_at hl 0 rfl) ?_
  refine lv_iload hx hb dL_law_274 (lv_at hl 4 rfl) ?_
  refine lv_iconst (v := 5) hx hb dL_law_276 (by decide) ?_
  refine lv_iadd hx hb dL_law_277 ?_
  refine lv_topi (fun v_9 ev_9 => ?_)
  obtain rfl : v_9 = 5 := ev_9.trans (by decide)
  refine va_sld hx hb hX hbl hbA hS (by unfold vp_in; decide) dL_law_278 ?_
  refine lv_topi (fun v_10 ev_10 => ?_)
  obtain rfl : v_10 = xs 5 := ev_10
  have hPc := hP.sub (ws' := [(xh0, .inr (10, [.ref xq1, .ref xq4, .ref xq6, .ref xq9, .ref xq14, .ref xq19, .ref xq20, .ref xq25, .ref xq30, .ref xq33, .ref xq39, .ref xq45, .ref xq47, .int 0, .int (-1), .int 0, .int 0])), (xq1, .inr (9, [.ref xq3, .int 0, .int 0])), (xq3, .inl (cI, 260, .inl (fun _ => 0)))]) [0, 1, 2] rfl
  have hDc := hD.sub (ws' := [(xh0, .inr (10, [.ref xq1, .ref xq4, .ref xq6, .ref xq9, .ref xq14, .ref xq19, .ref xq20, .ref xq25, .ref xq30, .ref xq33, .ref xq39, .ref xq45, .ref xq47, .int 0, .int (-1), .int 0, .int 0])), (xq1, .inr (9, [.ref xq3, .int 0, .int 0])), (xq3, .inl (cI, 260, .inl (fun _ => 0)))]) [0, 1, 2] (by decide) rfl
  have hFc := va_free (wc := [(xh0, .inr (10, [.ref xq1, .ref xq4, .ref xq6, .ref xq9, .ref xq14, .ref xq19, .ref xq20, .ref xq25, .ref xq30, .ref xq33, .ref xq39, .ref xq45, .ref xq47, .int 0, .int (-1), .int 0, .int 0])), (xq1, .inr (9, [.ref xq3, .int 0, .int 0])), (xq3, .inl (cI, 260, .inl (fun _ => 0)))]) hD hS hA [0, 1, 2] rfl
  refine va_calli (va_runV (As := [.int (xs 1), .int (xs 2), .int (xs 3), .int (xs 4), .int (xs 5)]) (rest := []) ⟨hx, hb, hml, hown, hts⟩ (c_X10_feed l dC dI cI cJ xh0 xq1 xq4 xq6 xq9 xq14 xq19 xq20 xq25 xq30 xq33 xq39 xq45 xq47 xq3 H.size (xs 1) (xs 2) (xs 3) (xs 4) (xs 5)) (cwV 5 hts (zgV qw408 qw409 qw410 qw98 qw411) rfl rfl rfl hd_X10_feed ⟨Nat.le_of_ble_eq_true rfl, Nat.le_of_ble_eq_true rfl⟩) (zPV hPc hK hDc (va_recv hK hP (ci := 10) (q0 := 0) rfl rfl)) rfl rfl hl.1 rfl (lv_room (Nat.le_of_ble_eq_true rfl)) dL_law_279 ⟨Nat.le_of_ble_eq_true rfl, Nat.le_of_ble_eq_true rfl⟩) hS (fun q _ h => hFc q h) hFc (fun r_11 u t H locs ht hvm hw hB hz1 hk1 hS => ?_)
  obtain ⟨hP, hD⟩ := va_join (wr := [(mh0, .inr (11, [.int 0, .ref mq1, .int 0, .int 0, .int 0, .int 0, .ref mq2, .ref mq3, .ref mq4, .ref mq5, .ref mq6, .ref mq7, .ref mq8, .int 0, .int 0, .ref mq9, .ref mq10, .ref mq11, .ref mq12, .ref mq13, .int 0, .int 0, .ref mq14, .ref mq15, .ref mq16, .int 0, .int 0, .ref mq17, .ref mq18, .int (-1), .int 0, .ref mq19, .int 0, .long 0, .ref mq20, .int 0, .int 0, .ref mq21, .ref mq22, .ref mq23, .int 0])), (mq1, .inl (cI, 240, .inl (fun _ => 0)))]) (w1 := []) hP hD [0, 1, 2] [3, 4] rfl rfl (by decide) (by decide) hk1 hFc zP0 zD0
  have hP : va_P (dC, dI) vwCl [(mh0, .inr (11, [.int 0, .ref mq1, .int 0, .int 0, .int 0, .int 0, .ref mq2, .ref mq3, .ref mq4, .ref mq5, .ref mq6, .ref mq7, .ref mq8, .int 0, .int 0, .ref mq9, .ref mq10, .ref mq11, .ref mq12, .ref mq13, .int 0, .int 0, .ref mq14, .ref mq15, .ref mq16, .int 0, .int 0, .ref mq17, .ref mq18, .int (-1), .int 0, .ref mq19, .int 0, .long 0, .ref mq20, .int 0, .int 0, .ref mq21, .ref mq22, .ref mq23, .int 0])), (mq1, .inl (cI, 240, .inl (fun _ => 0)))] H := hP
  have hD : va_D (fun q : Nat => s.heap.size ≤ q) [(mh0, .inr (11, [.int 0, .ref mq1, .int 0, .int 0, .int 0, .int 0, .ref mq2, .ref mq3, .ref mq4, .ref mq5, .ref mq6, .ref mq7, .ref mq8, .int 0, .int 0, .ref mq9, .ref mq10, .ref mq11, .ref mq12, .ref mq13, .int 0, .int 0, .ref mq14, .ref mq15, .ref mq16, .int 0, .int 0, .ref mq17, .ref mq18, .int (-1), .int 0, .ref mq19, .int 0, .long 0, .ref mq20, .int 0, .int 0, .ref mq21, .ref mq22, .ref mq23, .int 0])), (mq1, .inl (cI, 240, .inl (fun _ => 0)))] := hD
  have hw : r_11 = nI (0 + zc4 (xs 1) + zc4 (xs 2) + zc4 (xs 3) + zc4 (xs 4) + zc4 (xs 5)) := hw
  subst hw
  refine lv_aload_n hx hb dL_law_282 rfl (lv_at hl 2 rfl) ?_
  refine lv_aload_n hx hb dL_law_283 rfl (lv_at hl 0 rfl) ?_
  refine lv_iload hx hb dL_law_284 (lv_at hl 4 rfl) ?_
  refine lv_iconst (v := 1) hx hb dL_law_286 (by decide) ?_
  refine lv_iadd hx hb dL_law_287 ?_
  refine lv_topi (fun v_12 ev_12 => ?_)
  obtain rfl : v_12 = 1 := ev_12.trans (by decide)
  refine va_sld hx hb hX hbl hbA hS (by unfold vp_in; decide) dL_law_288 ?_
  refine lv_topi (fun v_13 ev_13 => ?_)
  obtain rfl : v_13 = xs 1 := ev_13
  refine lv_aload_n hx hb dL_law_289 rfl (lv_at hl 0 rfl) ?_
  refine lv_iload hx hb dL_law_290 (lv_at hl 4 rfl) ?_
  refine lv_iconst (v := 2) hx hb dL_law_292 (by decide) ?_
  refine lv_iadd hx hb dL_law_293 ?_
  refine lv_topi (fun v_14 ev_14 => ?_)
  obtain rfl : v_14 = 2 := ev_14.trans (by decide)
  refine va_sld hx hb hX hbl hbA hS (by unfold vp_in; decide) dL_law_294 ?_
  refine lv_topi (fun v_15 ev_15 => ?_)
  obtain rfl : v_15 = xs 2 := ev_15
  refine lv_aload_n hx hb dL_law_295 rfl (lv_at hl 0 rfl) ?_
  refine lv_iload hx hb dL_law_296 (lv_at hl 4 rfl) ?_
  refine lv_iconst (v := 3) hx hb dL_law_298 (by decide) ?_
  refine lv_iadd hx hb dL_law_299 ?_
  refine lv_topi (fun v_16 ev_16 => ?_)
  obtain rfl : v_16 = 3 := ev_16.trans (by decide)
  refine va_sld hx hb hX hbl hbA hS (by unfold vp_in; decide) dL_law_300 ?_
  refine lv_topi (fun v_17 ev_17 => ?_)
  obtain rfl : v_17 = xs 3 := ev_17
  refine lv_aload_n hx hb dL_law_301 rfl (lv_at hl 0 rfl) ?_
  refine lv_iload hx hb dL_law_302 (lv_at hl 4 rfl) ?_
  refine lv_iconst (v := 4) hx hb dL_law_304 (by decide) ?_
  refine lv_iadd hx hb dL_law_305 ?_
  refine lv_topi (fun v_18 ev_18 => ?_)
  obtain rfl : v_18 = 4 := ev_18.trans (by decide)
  refine va_sld hx hb hX hbl hbA hS (by unfold vp_in; decide) dL_law_306 ?_
  refine lv_topi (fun v_19 ev_19 => ?_)
  obtain rfl : v_19 = xs 4 := ev_19
  refine lv_aload_n hx hb dL_law_307 rfl (lv_at hl 0 rfl) ?_
  refine lv_iload hx hb dL_law_308 (lv_at hl 4 rfl) ?_
  refine lv_iconst (v := 5) hx hb dL_law_310 (by decide) ?_
  refine lv_iadd hx hb dL_law_311 ?_
  refine lv_topi (fun v_20 ev_20 => ?_)
  obtain rfl : v_20 = 5 := ev_20.trans (by decide)
  refine va_sld hx hb hX hbl hbA hS (by unfold vp_in; decide) dL_law_312 ?_
  refine lv_topi (fun v_21 ev_21 => ?_)
  obtain rfl : v_21 = xs 5 := ev_21
  have hPc := hP.sub (ws' := [(mh0, .inr (11, [.int 0, .ref mq1, .int 0, .int 0, .int 0, .int 0, .ref mq2, .ref mq3, .ref mq4, .ref mq5, .ref mq6, .ref mq7, .ref mq8, .int 0, .int 0, .ref mq9, .ref mq10, .ref mq11, .ref mq12, .ref mq13, .int 0, .int 0, .ref mq14, .ref mq15, .ref mq16, .int 0, .int 0, .ref mq17, .ref mq18, .int (-1), .int 0, .ref mq19, .int 0, .long 0, .ref mq20, .int 0, .int 0, .ref mq21, .ref mq22, .ref mq23, .int 0])), (mq1, .inl (cI, 240, .inl (fun _ => 0)))]) [0, 1] rfl
  have hDc := hD.sub (ws' := [(mh0, .inr (11, [.int 0, .ref mq1, .int 0, .int 0, .int 0, .int 0, .ref mq2, .ref mq3, .ref mq4, .ref mq5, .ref mq6, .ref mq7, .ref mq8, .int 0, .int 0, .ref mq9, .ref mq10, .ref mq11, .ref mq12, .ref mq13, .int 0, .int 0, .ref mq14, .ref mq15, .ref mq16, .int 0, .int 0, .ref mq17, .ref mq18, .int (-1), .int 0, .ref mq19, .int 0, .long 0, .ref mq20, .int 0, .int 0, .ref mq21, .ref mq22, .ref mq23, .int 0])), (mq1, .inl (cI, 240, .inl (fun _ => 0)))]) [0, 1] (by decide) rfl
  have hFc := va_free (wc := [(mh0, .inr (11, [.int 0, .ref mq1, .int 0, .int 0, .int 0, .int 0, .ref mq2, .ref mq3, .ref mq4, .ref mq5, .ref mq6, .ref mq7, .ref mq8, .int 0, .int 0, .ref mq9, .ref mq10, .ref mq11, .ref mq12, .ref mq13, .int 0, .int 0, .ref mq14, .ref mq15, .ref mq16, .int 0, .int 0, .ref mq17, .ref mq18, .int (-1), .int 0, .ref mq19, .int 0, .long 0, .ref mq20, .int 0, .int 0, .ref mq21, .ref mq22, .ref mq23, .int 0])), (mq1, .inl (cI, 240, .inl (fun _ => 0)))]) hD hS hA [0, 1] rfl
  refine va_calli (va_runV (As := [.int (xs 1), .int (xs 2), .int (xs 3), .int (xs 4), .int (xs 5)]) (rest := [.int (nI (0 + zc4 (xs 1) + zc4 (xs 2) + zc4 (xs 3) + zc4 (xs 4) + zc4 (xs 5)))]) ⟨hx, hb, hml, hown, hts⟩ (c_X11_feed l dC dI cI cJ mh0 mq1 mq2 mq3 mq4 mq5 mq6 mq7 mq8 mq9 mq10 mq11 mq12 mq13 mq14 mq15 mq16 mq17 mq18 mq19 mq20 mq21 mq22 mq23 H.size (xs 1) (xs 2) (xs 3) (xs 4) (xs 5)) (cwV 5 hts (zgV qw1255 qw1256 qw1257 qw108 qw1258) rfl rfl rfl hd_X11_feed ⟨Nat.le_of_ble_eq_true rfl, Nat.le_of_ble_eq_true rfl⟩) (zPV hPc hK hDc (va_recv hK hP (ci := 11) (q0 := 0) rfl rfl)) rfl rfl hl.1 rfl (lv_room (Nat.le_of_ble_eq_true rfl)) dL_law_313 ⟨Nat.le_of_ble_eq_true rfl, Nat.le_of_ble_eq_true rfl⟩) hS (fun q _ h => hFc q h) hFc (fun r_22 u t H locs ht hvm hw hB hz1 hk1 hS => ?_)
  obtain ⟨hP, hD⟩ := va_join (wr := []) (w1 := []) hP hD [0, 1] [] rfl rfl (by decide) (by decide) hk1 hFc zP0 zD0
  have hP : va_P (dC, dI) vwCl [] H := hP
  have hD : va_D (fun q : Nat => s.heap.size ≤ q) [] := hD
  have hw : r_22 = nI (0 + zc4 (xs 1) + zc4 (xs 2) + zc4 (xs 3) + zc4 (xs 4) + zc4 (xs 5)) := hw
  subst hw
  refine lv_icmp_eq (tgt := 1825) hx hb dL_law_316 (by decide) (fun _ => ?_) (fun c => absurd rfl c)
  exact law_end C0 hS (lv_sub hl [0, 4] rfl)
set_option maxHeartbeats 4000000 in
set_option maxRecDepth 100000 in
theorem law_case_1 {p : Program} {l : Launch} {e : Env} {s : State} {m : MethodId} {below : List Frame} {meth : Method} {c : Code} {b : Nat} {xs : Nat → Int32} {dC : Nat → ClassId} {dI : Nat → Nat → Nat} {cI cJ : ClassId} {xh0 mh0 o0 xq1 xq4 xq6 xq9 xq14 xq19 xq20 xq25 xq30 xq33 xq39 xq45 xq47 xq3 mq1 mq2 mq3 mq4 mq5 mq6 mq7 mq8 mq9 mq10 mq11 mq12 mq13 mq14 mq15 mq16 mq17 mq18 mq19 mq20 mq21 mq22 mq23 g0 : Nat} (hl0 : l.stackTraces = false) (C0 : lw_At p s m meth c b 7 xs) (hK : va_K (dC, dI) vwCl [(cI, .int), (cJ, .long)] s) (hF : zF g0 (fun q : Nat => s.heap.size ≤ q) s) (hG : zG (fun q : Nat => s.heap.size ≤ q) s) {H : Heap} {locs : List Loc} (hP : va_P (dC, dI) vwCl [(xh0, .inr (10, [.ref xq1, .ref xq4, .ref xq6, .ref xq9, .ref xq14, .ref xq19, .ref xq20, .ref xq25, .ref xq30, .ref xq33, .ref xq39, .ref xq45, .ref xq47, .int 0, .int (-1), .int 0, .int 0])), (xq1, .inr (9, [.ref xq3, .int 0, .int 0])), (mh0, .inr (11, [.int 0, .ref mq1, .int 0, .int 0, .int 0, .int 0, .ref mq2, .ref mq3, .ref mq4, .ref mq5, .ref mq6, .ref mq7, .ref mq8, .int 0, .int 0, .ref mq9, .ref mq10, .ref mq11, .ref mq12, .ref mq13, .int 0, .int 0, .ref mq14, .ref mq15, .ref mq16, .int 0, .int 0, .ref mq17, .ref mq18, .int (-1), .int 0, .ref mq19, .int 0, .long 0, .ref mq20, .int 0, .int 0, .ref mq21, .ref mq22, .ref mq23, .int 0]))] H) (hD : va_D (fun q : Nat => s.heap.size ≤ q) [(xh0, .inr (10, [.ref xq1, .ref xq4, .ref xq6, .ref xq9, .ref xq14, .ref xq19, .ref xq20, .ref xq25, .ref xq30, .ref xq33, .ref xq39, .ref xq45, .ref xq47, .int 0, .int (-1), .int 0, .int 0])), (xq1, .inr (9, [.ref xq3, .int 0, .int 0])), (mh0, .inr (11, [.int 0, .ref mq1, .int 0, .int 0, .int 0, .int 0, .ref mq2, .ref mq3, .ref mq4, .ref mq5, .ref mq6, .ref mq7, .ref mq8, .int 0, .int 0, .ref mq9, .ref mq10, .ref mq11, .ref mq12, .ref mq13, .int 0, .int 0, .ref mq14, .ref mq15, .ref mq16, .int 0, .int 0, .ref mq17, .ref mq18, .int (-1), .int 0, .ref mq19, .int 0, .long 0, .ref mq20, .int 0, .int 0, .ref mq21, .ref mq22, .ref mq23, .int 0]))]) (hS : va_S (fun q : Nat => s.heap.size ≤ q) s.heap H locs) {ls : Array Slot} (hl : lv_has ls 7 [(0, .ref b), (1, .ref xh0), (2, .ref mh0), (3, .ref o0), (4, .int 0)]) : W p l e room_1 s m #[Value.ref b] below meth c H locs 62 13545 (lw_Z below #[Value.ref b] s) (F0 m 321 ls []) := by
  obtain ⟨hx, hb, hr, hml, hown, hts0, hX, hbl, hlocks, hgv⟩ := id C0
  have hts : ∀ w ∈ wA, w.before #[Value.ref b] s = true := fun w h => hts0 w (List.mem_filter.mp h).1
  have hown : s.vm.findClass RL = some m.cls := hown
  have hA : ∀ q : Nat, s.heap.size ≤ q → (fun q : Nat => s.heap.size ≤ q) q := fun _ h => h
  have hbA : ¬ (fun q : Nat => s.heap.size ≤ q) b := Nat.not_le.mpr hbl
  refine lv_aload_n hx hb dL_law_321 rfl (lv_at hl 1 rfl) ?_
  refine lv_aload_n hx hb dL_law_322 rfl (lv_at hl 0 rfl) ?_
  refine lv_iload hx hb dL_law_323 (lv_at hl 4 rfl) ?_
  refine lv_iconst (v := 1) hx hb dL_law_325 (by decide) ?_
  refine lv_iadd hx hb dL_law_326 ?_
  refine lv_topi (fun v_1 ev_1 => ?_)
  obtain rfl : v_1 = 1 := ev_1.trans (by decide)
  refine va_sld hx hb hX hbl hbA hS (by unfold vp_in; decide) dL_law_327 ?_
  refine lv_topi (fun v_2 ev_2 => ?_)
  obtain rfl : v_2 = xs 1 := ev_2
  have hPc := hP.sub (ws' := [(xh0, .inr (10, [.ref xq1, .ref xq4, .ref xq6, .ref xq9, .ref xq14, .ref xq19, .ref xq20, .ref xq25, .ref xq30, .ref xq33, .ref xq39, .ref xq45, .ref xq47, .int 0, .int (-1), .int 0, .int 0])), (xq1, .inr (9, [.ref xq3, .int 0, .int 0]))]) [0, 1] rfl
  have hDc := hD.sub (ws' := [(xh0, .inr (10, [.ref xq1, .ref xq4, .ref xq6, .ref xq9, .ref xq14, .ref xq19, .ref xq20, .ref xq25, .ref xq30, .ref xq33, .ref xq39, .ref xq45, .ref xq47, .int 0, .int (-1), .int 0, .int 0])), (xq1, .inr (9, [.ref xq3, .int 0, .int 0]))]) [0, 1] (by decide) rfl
  have hFc := va_free (wc := [(xh0, .inr (10, [.ref xq1, .ref xq4, .ref xq6, .ref xq9, .ref xq14, .ref xq19, .ref xq20, .ref xq25, .ref xq30, .ref xq33, .ref xq39, .ref xq45, .ref xq47, .int 0, .int (-1), .int 0, .int 0])), (xq1, .inr (9, [.ref xq3, .int 0, .int 0]))]) hD hS hA [0, 1] rfl
  refine va_calli (va_runV (As := [.int (xs 1)]) (rest := []) ⟨hx, hb, hml, hown, hts⟩ (c_X10_end l dC dI cI cJ xh0 xq1 xq4 xq6 xq9 xq14 xq19 xq20 xq25 xq30 xq33 xq39 xq45 xq47 xq3 H.size (xs 1)) (cwV 1 hts (zgV qw416 qw417 qw418 qw98 qw419) rfl rfl rfl hd_X10_end ⟨Nat.le_of_ble_eq_true rfl, Nat.le_of_ble_eq_true rfl⟩) (zPV hPc hK hDc (va_recv hK hP (ci := 10) (q0 := 0) rfl rfl)) rfl rfl hl.1 rfl (lv_room (Nat.le_of_ble_eq_true rfl)) dL_law_328 ⟨Nat.le_of_ble_eq_true rfl, Nat.le_of_ble_eq_true rfl⟩) hS (fun q _ h => hFc q h) hFc (fun r_3 u t H locs ht hvm hw hB hz1 hk1 hS => ?_)
  obtain ⟨hP, hD⟩ := va_join (wr := [(mh0, .inr (11, [.int 0, .ref mq1, .int 0, .int 0, .int 0, .int 0, .ref mq2, .ref mq3, .ref mq4, .ref mq5, .ref mq6, .ref mq7, .ref mq8, .int 0, .int 0, .ref mq9, .ref mq10, .ref mq11, .ref mq12, .ref mq13, .int 0, .int 0, .ref mq14, .ref mq15, .ref mq16, .int 0, .int 0, .ref mq17, .ref mq18, .int (-1), .int 0, .ref mq19, .int 0, .long 0, .ref mq20, .int 0, .int 0, .ref mq21, .ref mq22, .ref mq23, .int 0]))]) (w1 := []) hP hD [0, 1] [2] rfl rfl (by decide) (by decide) hk1 hFc zP0 zD0
  have hP : va_P (dC, dI) vwCl [(mh0, .inr (11, [.int 0, .ref mq1, .int 0, .int 0, .int 0, .int 0, .ref mq2, .ref mq3, .ref mq4, .ref mq5, .ref mq6, .ref mq7, .ref mq8, .int 0, .int 0, .ref mq9, .ref mq10, .ref mq11, .ref mq12, .ref mq13, .int 0, .int 0, .ref mq14, .ref mq15, .ref mq16, .int 0, .int 0, .ref mq17, .ref mq18, .int (-1), .int 0, .ref mq19, .int 0, .long 0, .ref mq20, .int 0, .int 0, .ref mq21, .ref mq22, .ref mq23, .int 0]))] H := hP
  have hD : va_D (fun q : Nat => s.heap.size ≤ q) [(mh0, .inr (11, [.int 0, .ref mq1, .int 0, .int 0, .int 0, .int 0, .ref mq2, .ref mq3, .ref mq4, .ref mq5, .ref mq6, .ref mq7, .ref mq8, .int 0, .int 0, .ref mq9, .ref mq10, .ref mq11, .ref mq12, .ref mq13, .int 0, .int 0, .ref mq14, .ref mq15, .ref mq16, .int 0, .int 0, .ref mq17, .ref mq18, .int (-1), .int 0, .ref mq19, .int 0, .long 0, .ref mq20, .int 0, .int 0, .ref mq21, .ref mq22, .ref mq23, .int 0]))] := hD
  rcases hw with ⟨c_3_0, rfl⟩ | ⟨c_3_0, c_3_1, rfl⟩ | ⟨c_3_0, c_3_1, rfl⟩
  · skip
    have i_3_0 : (xs 1).toInt < 0 := z1 rfl (by decide) c_3_0
    refine lv_aload_n hx hb dL_law_331 rfl (lv_at hl 2 rfl) ?_
    refine lv_aload_n hx hb dL_law_332 rfl (lv_at hl 0 rfl) ?_
    refine lv_iload hx hb dL_law_333 (lv_at hl 4 rfl) ?_
    refine lv_iconst (v := 1) hx hb dL_law_335 (by decide) ?_
    refine lv_iadd hx hb dL_law_336 ?_
    refine lv_topi (fun v_4 ev_4 => ?_)
    obtain rfl : v_4 = 1 := ev_4.trans (by decide)
    refine va_sld hx hb hX hbl hbA hS (by unfold vp_in; decide) dL_law_337 ?_
    refine lv_topi (fun v_5 ev_5 => ?_)
    obtain rfl : v_5 = xs 1 := ev_5
    have hPc := hP.sub (ws' := [(mh0, .inr (11, [.int 0, .ref mq1, .int 0, .int 0, .int 0, .int 0, .ref mq2, .ref mq3, .ref mq4, .ref mq5, .ref mq6, .ref mq7, .ref mq8, .int 0, .int 0, .ref mq9, .ref mq10, .ref mq11, .ref mq12, .ref mq13, .int 0, .int 0, .ref mq14, .ref mq15, .ref mq16, .int 0, .int 0, .ref mq17, .ref mq18, .int (-1), .int 0, .ref mq19, .int 0, .long 0, .ref mq20, .int 0, .int 0, .ref mq21, .ref mq22, .ref mq23, .int 0]))]) [0] rfl
    have hDc := hD.sub (ws' := [(mh0, .inr (11, [.int 0, .ref mq1, .int 0, .int 0, .int 0, .int 0, .ref mq2, .ref mq3, .ref mq4, .ref mq5, .ref mq6, .ref mq7, .ref mq8, .int 0, .int 0, .ref mq9, .ref mq10, .ref mq11, .ref mq12, .ref mq13, .int 0, .int 0, .ref mq14, .ref mq15, .ref mq16, .int 0, .int 0, .ref mq17, .ref mq18, .int (-1), .int 0, .ref mq19, .int 0, .long 0, .ref mq20, .int 0, .int 0, .ref mq21, .ref mq22, .ref mq23, .int 0]))]) [0] (by decide) rfl
    have hFc := va_free (wc := [(mh0, .inr (11, [.int 0, .ref mq1, .int 0, .int 0, .int 0, .int 0, .ref mq2, .ref mq3, .ref mq4, .ref mq5, .ref mq6, .ref mq7, .ref mq8, .int 0, .int 0, .ref mq9, .ref mq10, .ref mq11, .ref mq12, .ref mq13, .int 0, .int 0, .ref mq14, .ref mq15, .ref mq16, .int 0, .int 0, .ref mq17, .ref mq18, .int (-1), .int 0, .ref mq19, .int 0, .long 0, .ref mq20, .int 0, .int 0, .ref mq21, .ref mq22, .ref mq23, .int 0]))]) hD hS hA [0] rfl
    refine va_calli (va_runV (As := [.int (xs 1)]) (rest := [.int 0]) ⟨hx, hb, hml, hown, hts⟩ (c_X11_end l dC dI cI cJ mh0 mq1 mq2 mq3 mq4 mq5 mq6 mq7 mq8 mq9 mq10 mq11 mq12 mq13 mq14 mq15 mq16 mq17 mq18 mq19 mq20 mq21 mq22 mq23 H.size (xs 1)) (cwV 1 hts (zgV qw1262 qw1263 qw1264 qw108 qw1265) rfl rfl rfl hd_X11_end ⟨Nat.le_of_ble_eq_true rfl, Nat.le_of_ble_eq_true rfl⟩) (zPV hPc hK hDc (va_recv hK hP (ci := 11) (q0 := 0) rfl rfl)) rfl rfl hl.1 rfl (lv_room (Nat.le_of_ble_eq_true rfl)) dL_law_338 ⟨Nat.le_of_ble_eq_true rfl, Nat.le_of_ble_eq_true rfl⟩) hS (fun q _ h => hFc q h) hFc (fun r_6 u t H locs ht hvm hw hB hz1 hk1 hS => ?_)
    obtain ⟨hP, hD⟩ := va_join (wr := []) (w1 := []) hP hD [0] [] rfl rfl (by decide) (by decide) hk1 hFc zP0 zD0
    have hP : va_P (dC, dI) vwCl [] H := hP
    have hD : va_D (fun q : Nat => s.heap.size ≤ q) [] := hD
    rcases hw with ⟨c_6_0, rfl⟩ | ⟨c_6_0, c_6_1, rfl⟩ | ⟨c_6_0, c_6_1, rfl⟩
    · skip
      have i_6_0 : (xs 1).toInt < 0 := z1 rfl (by decide) c_6_0
      refine lv_icmp_eq (tgt := 1825) hx hb dL_law_341 (by decide) (fun _ => ?_) (fun c => absurd (by decide) c)
      exact law_end C0 hS (lv_sub hl [0, 4] rfl)
    · skip
      have i_6_0 : 0 ≤ (xs 1).toInt := z2 rfl (by decide) c_6_0
      have i_6_1 : (xs 1).toInt ≤ 0 := z3 rfl (by decide) c_6_1
      exfalso; omega
    · skip
      have i_6_0 : 0 ≤ (xs 1).toInt := z2 rfl (by decide) c_6_0
      have i_6_1 : 0 < (xs 1).toInt := z4 rfl (by decide) c_6_1
      exfalso; omega
  · skip
    have i_3_0 : 0 ≤ (xs 1).toInt := z2 rfl (by decide) c_3_0
    have i_3_1 : (xs 1).toInt ≤ 0 := z3 rfl (by decide) c_3_1
    refine lv_aload_n hx hb dL_law_331 rfl (lv_at hl 2 rfl) ?_
    refine lv_aload_n hx hb dL_law_332 rfl (lv_at hl 0 rfl) ?_
    refine lv_iload hx hb dL_law_333 (lv_at hl 4 rfl) ?_
    refine lv_iconst (v := 1) hx hb dL_law_335 (by decide) ?_
    refine lv_iadd hx hb dL_law_336 ?_
    refine lv_topi (fun v_7 ev_7 => ?_)
    obtain rfl : v_7 = 1 := ev_7.trans (by decide)
    refine va_sld hx hb hX hbl hbA hS (by unfold vp_in; decide) dL_law_337 ?_
    refine lv_topi (fun v_8 ev_8 => ?_)
    obtain rfl : v_8 = xs 1 := ev_8
    have hPc := hP.sub (ws' := [(mh0, .inr (11, [.int 0, .ref mq1, .int 0, .int 0, .int 0, .int 0, .ref mq2, .ref mq3, .ref mq4, .ref mq5, .ref mq6, .ref mq7, .ref mq8, .int 0, .int 0, .ref mq9, .ref mq10, .ref mq11, .ref mq12, .ref mq13, .int 0, .int 0, .ref mq14, .ref mq15, .ref mq16, .int 0, .int 0, .ref mq17, .ref mq18, .int (-1), .int 0, .ref mq19, .int 0, .long 0, .ref mq20, .int 0, .int 0, .ref mq21, .ref mq22, .ref mq23, .int 0]))]) [0] rfl
    have hDc := hD.sub (ws' := [(mh0, .inr (11, [.int 0, .ref mq1, .int 0, .int 0, .int 0, .int 0, .ref mq2, .ref mq3, .ref mq4, .ref mq5, .ref mq6, .ref mq7, .ref mq8, .int 0, .int 0, .ref mq9, .ref mq10, .ref mq11, .ref mq12, .ref mq13, .int 0, .int 0, .ref mq14, .ref mq15, .ref mq16, .int 0, .int 0, .ref mq17, .ref mq18, .int (-1), .int 0, .ref mq19, .int 0, .long 0, .ref mq20, .int 0, .int 0, .ref mq21, .ref mq22, .ref mq23, .int 0]))]) [0] (by decide) rfl
    have hFc := va_free (wc := [(mh0, .inr (11, [.int 0, .ref mq1, .int 0, .int 0, .int 0, .int 0, .ref mq2, .ref mq3, .ref mq4, .ref mq5, .ref mq6, .ref mq7, .ref mq8, .int 0, .int 0, .ref mq9, .ref mq10, .ref mq11, .ref mq12, .ref mq13, .int 0, .int 0, .ref mq14, .ref mq15, .ref mq16, .int 0, .int 0, .ref mq17, .ref mq18, .int (-1), .int 0, .ref mq19, .int 0, .long 0, .ref mq20, .int 0, .int 0, .ref mq21, .ref mq22, .ref mq23, .int 0]))]) hD hS hA [0] rfl
    refine va_calli (va_runV (As := [.int (xs 1)]) (rest := [.int 1]) ⟨hx, hb, hml, hown, hts⟩ (c_X11_end l dC dI cI cJ mh0 mq1 mq2 mq3 mq4 mq5 mq6 mq7 mq8 mq9 mq10 mq11 mq12 mq13 mq14 mq15 mq16 mq17 mq18 mq19 mq20 mq21 mq22 mq23 H.size (xs 1)) (cwV 1 hts (zgV qw1262 qw1263 qw1264 qw108 qw1265) rfl rfl rfl hd_X11_end ⟨Nat.le_of_ble_eq_true rfl, Nat.le_of_ble_eq_true rfl⟩) (zPV hPc hK hDc (va_recv hK hP (ci := 11) (q0 := 0) rfl rfl)) rfl rfl hl.1 rfl (lv_room (Nat.le_of_ble_eq_true rfl)) dL_law_338 ⟨Nat.le_of_ble_eq_true rfl, Nat.le_of_ble_eq_true rfl⟩) hS (fun q _ h => hFc q h) hFc (fun r_9 u t H locs ht hvm hw hB hz1 hk1 hS => ?_)
    obtain ⟨hP, hD⟩ := va_join (wr := []) (w1 := []) hP hD [0] [] rfl rfl (by decide) (by decide) hk1 hFc zP0 zD0
    have hP : va_P (dC, dI) vwCl [] H := hP
    have hD : va_D (fun q : Nat => s.heap.size ≤ q) [] := hD
    rcases hw with ⟨c_9_0, rfl⟩ | ⟨c_9_0, c_9_1, rfl⟩ | ⟨c_9_0, c_9_1, rfl⟩
    · skip
      have i_9_0 : (xs 1).toInt < 0 := z1 rfl (by decide) c_9_0
      exfalso; omega
    · skip
      have i_9_0 : 0 ≤ (xs 1).toInt := z2 rfl (by decide) c_9_0
      have i_9_1 : (xs 1).toInt ≤ 0 := z3 rfl (by decide) c_9_1
      refine lv_icmp_eq (tgt := 1825) hx hb dL_law_341 (by decide) (fun _ => ?_) (fun c => absurd (by decide) c)
      exact law_end C0 hS (lv_sub hl [0, 4] rfl)
    · skip
      have i_9_0 : 0 ≤ (xs 1).toInt := z2 rfl (by decide) c_9_0
      have i_9_1 : 0 < (xs 1).toInt := z4 rfl (by decide) c_9_1
      exfalso; omega
  · skip
    have i_3_0 : 0 ≤ (xs 1).toInt := z2 rfl (by decide) c_3_0
    have i_3_1 : 0 < (xs 1).toInt := z4 rfl (by decide) c_3_1
    refine lv_aload_n hx hb dL_law_331 rfl (lv_at hl 2 rfl) ?_
    refine lv_aload_n hx hb dL_law_332 rfl (lv_at hl 0 rfl) ?_
    refine lv_iload hx hb dL_law_333 (lv_at hl 4 rfl) ?_
    refine lv_iconst (v := 1) hx hb dL_law_335 (by decide) ?_
    refine lv_iadd hx hb dL_law_336 ?_
    refine lv_topi (fun v_10 ev_10 => ?_)
    obtain rfl : v_10 = 1 := ev_10.trans (by decide)
    refine va_sld hx hb hX hbl hbA hS (by unfold vp_in; decide) dL_law_337 ?_
    refine lv_topi (fun v_11 ev_11 => ?_)
    obtain rfl : v_11 = xs 1 := ev_11
    have hPc := hP.sub (ws' := [(mh0, .inr (11, [.int 0, .ref mq1, .int 0, .int 0, .int 0, .int 0, .ref mq2, .ref mq3, .ref mq4, .ref mq5, .ref mq6, .ref mq7, .ref mq8, .int 0, .int 0, .ref mq9, .ref mq10, .ref mq11, .ref mq12, .ref mq13, .int 0, .int 0, .ref mq14, .ref mq15, .ref mq16, .int 0, .int 0, .ref mq17, .ref mq18, .int (-1), .int 0, .ref mq19, .int 0, .long 0, .ref mq20, .int 0, .int 0, .ref mq21, .ref mq22, .ref mq23, .int 0]))]) [0] rfl
    have hDc := hD.sub (ws' := [(mh0, .inr (11, [.int 0, .ref mq1, .int 0, .int 0, .int 0, .int 0, .ref mq2, .ref mq3, .ref mq4, .ref mq5, .ref mq6, .ref mq7, .ref mq8, .int 0, .int 0, .ref mq9, .ref mq10, .ref mq11, .ref mq12, .ref mq13, .int 0, .int 0, .ref mq14, .ref mq15, .ref mq16, .int 0, .int 0, .ref mq17, .ref mq18, .int (-1), .int 0, .ref mq19, .int 0, .long 0, .ref mq20, .int 0, .int 0, .ref mq21, .ref mq22, .ref mq23, .int 0]))]) [0] (by decide) rfl
    have hFc := va_free (wc := [(mh0, .inr (11, [.int 0, .ref mq1, .int 0, .int 0, .int 0, .int 0, .ref mq2, .ref mq3, .ref mq4, .ref mq5, .ref mq6, .ref mq7, .ref mq8, .int 0, .int 0, .ref mq9, .ref mq10, .ref mq11, .ref mq12, .ref mq13, .int 0, .int 0, .ref mq14, .ref mq15, .ref mq16, .int 0, .int 0, .ref mq17, .ref mq18, .int (-1), .int 0, .ref mq19, .int 0, .long 0, .ref mq20, .int 0, .int 0, .ref mq21, .ref mq22, .ref mq23, .int 0]))]) hD hS hA [0] rfl
    refine va_calli (va_runV (As := [.int (xs 1)]) (rest := [.int 0]) ⟨hx, hb, hml, hown, hts⟩ (c_X11_end l dC dI cI cJ mh0 mq1 mq2 mq3 mq4 mq5 mq6 mq7 mq8 mq9 mq10 mq11 mq12 mq13 mq14 mq15 mq16 mq17 mq18 mq19 mq20 mq21 mq22 mq23 H.size (xs 1)) (cwV 1 hts (zgV qw1262 qw1263 qw1264 qw108 qw1265) rfl rfl rfl hd_X11_end ⟨Nat.le_of_ble_eq_true rfl, Nat.le_of_ble_eq_true rfl⟩) (zPV hPc hK hDc (va_recv hK hP (ci := 11) (q0 := 0) rfl rfl)) rfl rfl hl.1 rfl (lv_room (Nat.le_of_ble_eq_true rfl)) dL_law_338 ⟨Nat.le_of_ble_eq_true rfl, Nat.le_of_ble_eq_true rfl⟩) hS (fun q _ h => hFc q h) hFc (fun r_12 u t H locs ht hvm hw hB hz1 hk1 hS => ?_)
    obtain ⟨hP, hD⟩ := va_join (wr := []) (w1 := []) hP hD [0] [] rfl rfl (by decide) (by decide) hk1 hFc zP0 zD0
    have hP : va_P (dC, dI) vwCl [] H := hP
    have hD : va_D (fun q : Nat => s.heap.size ≤ q) [] := hD
    rcases hw with ⟨c_12_0, rfl⟩ | ⟨c_12_0, c_12_1, rfl⟩ | ⟨c_12_0, c_12_1, rfl⟩
    · skip
      have i_12_0 : (xs 1).toInt < 0 := z1 rfl (by decide) c_12_0
      exfalso; omega
    · skip
      have i_12_0 : 0 ≤ (xs 1).toInt := z2 rfl (by decide) c_12_0
      have i_12_1 : (xs 1).toInt ≤ 0 := z3 rfl (by decide) c_12_1
      exfalso; omega
    · skip
      have i_12_0 : 0 ≤ (xs 1).toInt := z2 rfl (by decide) c_12_0
      have i_12_1 : 0 < (xs 1).toInt := z4 rfl (by decide) c_12_1
      refine lv_icmp_eq (tgt := 1825) hx hb dL_law_341 (by decide) (fun _ => ?_) (fun c => absurd (by decide) c)
      exact law_end C0 hS (lv_sub hl [0, 4] rfl)
set_option maxHeartbeats 4000000 in
set_option maxRecDepth 100000 in
theorem law_case_2 {p : Program} {l : Launch} {e : Env} {s : State} {m : MethodId} {below : List Frame} {meth : Method} {c : Code} {b : Nat} {xs : Nat → Int32} {dC : Nat → ClassId} {dI : Nat → Nat → Nat} {cI cJ : ClassId} {xh0 mh0 o0 xq1 xq4 xq6 xq9 xq14 xq19 xq20 xq25 xq30 xq33 xq39 xq45 xq47 xq3 xq8 xq11 xq12 xq13 mq1 mq2 mq3 mq4 mq5 mq6 mq7 mq8 mq9 mq10 mq11 mq12 mq13 mq14 mq15 mq16 mq17 mq18 mq19 mq20 mq21 mq22 mq23 g0 : Nat} (hl0 : l.stackTraces = false) (C0 : lw_At p s m meth c b 7 xs) (hK : va_K (dC, dI) vwCl [(cI, .int), (cJ, .long)] s) (hF : zF g0 (fun q : Nat => s.heap.size ≤ q) s) (hG : zG (fun q : Nat => s.heap.size ≤ q) s) {H : Heap} {locs : List Loc} (hP : va_P (dC, dI) vwCl [(xh0, .inr (10, [.ref xq1, .ref xq4, .ref xq6, .ref xq9, .ref xq14, .ref xq19, .ref xq20, .ref xq25, .ref xq30, .ref xq33, .ref xq39, .ref xq45, .ref xq47, .int 0, .int (-1), .int 0, .int 0])), (xq1, .inr (9, [.ref xq3, .int 0, .int 0])), (xq4, .inr (2, [.null, .null, .int 0])), (xq6, .inr (5, [.ref xq8, .int 0, .null])), (xq9, .inr (1, [.ref xq11, .ref xq12, .ref xq13, .int 0, .int 0])), (xq11, .inl (cI, 3, .inl (fun _ => 0))), (mh0, .inr (11, [.int 0, .ref mq1, .int 0, .int 0, .int 0, .int 0, .ref mq2, .ref mq3, .ref mq4, .ref mq5, .ref mq6, .ref mq7, .ref mq8, .int 0, .int 0, .ref mq9, .ref mq10, .ref mq11, .ref mq12, .ref mq13, .int 0, .int 0, .ref mq14, .ref mq15, .ref mq16, .int 0, .int 0, .ref mq17, .ref mq18, .int (-1), .int 0, .ref mq19, .int 0, .long 0, .ref mq20, .int 0, .int 0, .ref mq21, .ref mq22, .ref mq23, .int 0])), (mq4, .inl (cI, 5, .inl (fun _ => 0))), (mq5, .inl (cI, 5, .inl (fun _ => 0))), (mq11, .inl (cI, 3, .inl (fun _ => 0)))] H) (hD : va_D (fun q : Nat => s.heap.size ≤ q) [(xh0, .inr (10, [.ref xq1, .ref xq4, .ref xq6, .ref xq9, .ref xq14, .ref xq19, .ref xq20, .ref xq25, .ref xq30, .ref xq33, .ref xq39, .ref xq45, .ref xq47, .int 0, .int (-1), .int 0, .int 0])), (xq1, .inr (9, [.ref xq3, .int 0, .int 0])), (xq4, .inr (2, [.null, .null, .int 0])), (xq6, .inr (5, [.ref xq8, .int 0, .null])), (xq9, .inr (1, [.ref xq11, .ref xq12, .ref xq13, .int 0, .int 0])), (xq11, .inl (cI, 3, .inl (fun _ => 0))), (mh0, .inr (11, [.int 0, .ref mq1, .int 0, .int 0, .int 0, .int 0, .ref mq2, .ref mq3, .ref mq4, .ref mq5, .ref mq6, .ref mq7, .ref mq8, .int 0, .int 0, .ref mq9, .ref mq10, .ref mq11, .ref mq12, .ref mq13, .int 0, .int 0, .ref mq14, .ref mq15, .ref mq16, .int 0, .int 0, .ref mq17, .ref mq18, .int (-1), .int 0, .ref mq19, .int 0, .long 0, .ref mq20, .int 0, .int 0, .ref mq21, .ref mq22, .ref mq23, .int 0])), (mq4, .inl (cI, 5, .inl (fun _ => 0))), (mq5, .inl (cI, 5, .inl (fun _ => 0))), (mq11, .inl (cI, 3, .inl (fun _ => 0)))]) (hS : va_S (fun q : Nat => s.heap.size ≤ q) s.heap H locs) {ls : Array Slot} (hl : lv_has ls 7 [(0, .ref b), (1, .ref xh0), (2, .ref mh0), (3, .ref o0), (4, .int 0)]) : W p l e room_1 s m #[Value.ref b] below meth c H locs 62 13545 (lw_Z below #[Value.ref b] s) (F0 m 346 ls []) := by
  obtain ⟨hx, hb, hr, hml, hown, hts0, hX, hbl, hlocks, hgv⟩ := id C0
  have hts : ∀ w ∈ wA, w.before #[Value.ref b] s = true := fun w h => hts0 w (List.mem_filter.mp h).1
  have hown : s.vm.findClass RL = some m.cls := hown
  have hA : ∀ q : Nat, s.heap.size ≤ q → (fun q : Nat => s.heap.size ≤ q) q := fun _ h => h
  have hbA : ¬ (fun q : Nat => s.heap.size ≤ q) b := Nat.not_le.mpr hbl
  refine lv_aload_n hx hb dL_law_346 rfl (lv_at hl 1 rfl) ?_
  refine lv_aload_n hx hb dL_law_347 rfl (lv_at hl 0 rfl) ?_
  refine lv_iload hx hb dL_law_348 (lv_at hl 4 rfl) ?_
  refine lv_iconst (v := 1) hx hb dL_law_350 (by decide) ?_
  refine lv_iadd hx hb dL_law_351 ?_
  refine lv_topi (fun v_1 ev_1 => ?_)
  obtain rfl : v_1 = 1 := ev_1.trans (by decide)
  refine va_sld hx hb hX hbl hbA hS (by unfold vp_in; decide) dL_law_352 ?_
  refine lv_topi (fun v_2 ev_2 => ?_)
  obtain rfl : v_2 = xs 1 := ev_2
  have hPc := hP.sub (ws' := [(xh0, .inr (10, [.ref xq1, .ref xq4, .ref xq6, .ref xq9, .ref xq14, .ref xq19, .ref xq20, .ref xq25, .ref xq30, .ref xq33, .ref xq39, .ref xq45, .ref xq47, .int 0, .int (-1), .int 0, .int 0])), (xq1, .inr (9, [.ref xq3, .int 0, .int 0])), (xq4, .inr (2, [.null, .null, .int 0])), (xq6, .inr (5, [.ref xq8, .int 0, .null])), (xq9, .inr (1, [.ref xq11, .ref xq12, .ref xq13, .int 0, .int 0])), (xq11, .inl (cI, 3, .inl (fun _ => 0)))]) [0, 1, 2, 3, 4, 5] rfl
  have hDc := hD.sub (ws' := [(xh0, .inr (10, [.ref xq1, .ref xq4, .ref xq6, .ref xq9, .ref xq14, .ref xq19, .ref xq20, .ref xq25, .ref xq30, .ref xq33, .ref xq39, .ref xq45, .ref xq47, .int 0, .int (-1), .int 0, .int 0])), (xq1, .inr (9, [.ref xq3, .int 0, .int 0])), (xq4, .inr (2, [.null, .null, .int 0])), (xq6, .inr (5, [.ref xq8, .int 0, .null])), (xq9, .inr (1, [.ref xq11, .ref xq12, .ref xq13, .int 0, .int 0])), (xq11, .inl (cI, 3, .inl (fun _ => 0)))]) [0, 1, 2, 3, 4, 5] (by decide) rfl
  have hFc := va_free (wc := [(xh0, .inr (10, [.ref xq1, .ref xq4, .ref xq6, .ref xq9, .ref xq14, .ref xq19, .ref xq20, .ref xq25, .ref xq30, .ref xq33, .ref xq39, .ref xq45, .ref xq47, .int 0, .int (-1), .int 0, .int 0])), (xq1, .inr (9, [.ref xq3, .int 0, .int 0])), (xq4, .inr (2, [.null, .null, .int 0])), (xq6, .inr (5, [.ref xq8, .int 0, .null])), (xq9, .inr (1, [.ref xq11, .ref xq12, .ref xq13, .int 0, .int 0])), (xq11, .inl (cI, 3, .inl (fun _ => 0)))]) hD hS hA [0, 1, 2, 3, 4, 5] rfl
  refine va_calli (va_runV (As := [.int (xs 1)]) (rest := []) ⟨hx, hb, hml, hown, hts⟩ (c_X10_fault l dC dI cI cJ xh0 xq1 xq4 xq6 xq9 xq14 xq19 xq20 xq25 xq30 xq33 xq39 xq45 xq47 xq3 xq8 xq11 xq12 xq13 g0 H.size (xs 1)) (cwV 1 hts (zgV qw420 qw421 qw422 qw98 qw423) rfl rfl rfl hd_X10_fault ⟨Nat.le_of_ble_eq_true rfl, Nat.le_of_ble_eq_true rfl⟩) (zPFV hPc hK hDc (va_recv hK hP (ci := 10) (q0 := 0) rfl rfl) (zF_call hF hS hFc)) rfl rfl hl.1 rfl (lv_room (Nat.le_of_ble_eq_true rfl)) dL_law_353 ⟨Nat.le_of_ble_eq_true rfl, Nat.le_of_ble_eq_true rfl⟩) hS (fun q _ h => hFc q h) hFc (fun r_3 u t H locs ht hvm hw hB hz1 hk1 hS => ?_)
  obtain ⟨hP, hD⟩ := va_join (wr := [(mh0, .inr (11, [.int 0, .ref mq1, .int 0, .int 0, .int 0, .int 0, .ref mq2, .ref mq3, .ref mq4, .ref mq5, .ref mq6, .ref mq7, .ref mq8, .int 0, .int 0, .ref mq9, .ref mq10, .ref mq11, .ref mq12, .ref mq13, .int 0, .int 0, .ref mq14, .ref mq15, .ref mq16, .int 0, .int 0, .ref mq17, .ref mq18, .int (-1), .int 0, .ref mq19, .int 0, .long 0, .ref mq20, .int 0, .int 0, .ref mq21, .ref mq22, .ref mq23, .int 0])), (mq4, .inl (cI, 5, .inl (fun _ => 0))), (mq5, .inl (cI, 5, .inl (fun _ => 0))), (mq11, .inl (cI, 3, .inl (fun _ => 0)))]) (w1 := []) hP hD [0, 1, 2, 3, 4, 5] [6, 7, 8, 9] rfl rfl (by decide) (by decide) hk1 hFc zP0 zD0
  have hP : va_P (dC, dI) vwCl [(mh0, .inr (11, [.int 0, .ref mq1, .int 0, .int 0, .int 0, .int 0, .ref mq2, .ref mq3, .ref mq4, .ref mq5, .ref mq6, .ref mq7, .ref mq8, .int 0, .int 0, .ref mq9, .ref mq10, .ref mq11, .ref mq12, .ref mq13, .int 0, .int 0, .ref mq14, .ref mq15, .ref mq16, .int 0, .int 0, .ref mq17, .ref mq18, .int (-1), .int 0, .ref mq19, .int 0, .long 0, .ref mq20, .int 0, .int 0, .ref mq21, .ref mq22, .ref mq23, .int 0])), (mq4, .inl (cI, 5, .inl (fun _ => 0))), (mq5, .inl (cI, 5, .inl (fun _ => 0))), (mq11, .inl (cI, 3, .inl (fun _ => 0)))] H := hP
  have hD : va_D (fun q : Nat => s.heap.size ≤ q) [(mh0, .inr (11, [.int 0, .ref mq1, .int 0, .int 0, .int 0, .int 0, .ref mq2, .ref mq3, .ref mq4, .ref mq5, .ref mq6, .ref mq7, .ref mq8, .int 0, .int 0, .ref mq9, .ref mq10, .ref mq11, .ref mq12, .ref mq13, .int 0, .int 0, .ref mq14, .ref mq15, .ref mq16, .int 0, .int 0, .ref mq17, .ref mq18, .int (-1), .int 0, .ref mq19, .int 0, .long 0, .ref mq20, .int 0, .int 0, .ref mq21, .ref mq22, .ref mq23, .int 0])), (mq4, .inl (cI, 5, .inl (fun _ => 0))), (mq5, .inl (cI, 5, .inl (fun _ => 0))), (mq11, .inl (cI, 3, .inl (fun _ => 0)))] := hD
  rcases hw with ⟨c_3_0, c_3_1, rfl⟩ | ⟨c_3_0, c_3_1, rfl⟩ | ⟨c_3_0, rfl⟩
  · skip
    have i_3_0 : ¬ (xs 1).toInt = 0 := z6 rfl (by decide) c_3_0
    have i_3_1 : ¬ (xs 1).toInt = 1 := z6 rfl (by decide) c_3_1
    refine lv_aload_n hx hb dL_law_356 rfl (lv_at hl 2 rfl) ?_
    refine lv_aload_n hx hb dL_law_357 rfl (lv_at hl 0 rfl) ?_
    refine lv_iload hx hb dL_law_358 (lv_at hl 4 rfl) ?_
    refine lv_iconst (v := 1) hx hb dL_law_360 (by decide) ?_
    refine lv_iadd hx hb dL_law_361 ?_
    refine lv_topi (fun v_4 ev_4 => ?_)
    obtain rfl : v_4 = 1 := ev_4.trans (by decide)
    refine va_sld hx hb hX hbl hbA hS (by unfold vp_in; decide) dL_law_362 ?_
    refine lv_topi (fun v_5 ev_5 => ?_)
    obtain rfl : v_5 = xs 1 := ev_5
    have hPc := hP.sub (ws' := [(mh0, .inr (11, [.int 0, .ref mq1, .int 0, .int 0, .int 0, .int 0, .ref mq2, .ref mq3, .ref mq4, .ref mq5, .ref mq6, .ref mq7, .ref mq8, .int 0, .int 0, .ref mq9, .ref mq10, .ref mq11, .ref mq12, .ref mq13, .int 0, .int 0, .ref mq14, .ref mq15, .ref mq16, .int 0, .int 0, .ref mq17, .ref mq18, .int (-1), .int 0, .ref mq19, .int 0, .long 0, .ref mq20, .int 0, .int 0, .ref mq21, .ref mq22, .ref mq23, .int 0])), (mq4, .inl (cI, 5, .inl (fun _ => 0))), (mq5, .inl (cI, 5, .inl (fun _ => 0))), (mq11, .inl (cI, 3, .inl (fun _ => 0)))]) [0, 1, 2, 3] rfl
    have hDc := hD.sub (ws' := [(mh0, .inr (11, [.int 0, .ref mq1, .int 0, .int 0, .int 0, .int 0, .ref mq2, .ref mq3, .ref mq4, .ref mq5, .ref mq6, .ref mq7, .ref mq8, .int 0, .int 0, .ref mq9, .ref mq10, .ref mq11, .ref mq12, .ref mq13, .int 0, .int 0, .ref mq14, .ref mq15, .ref mq16, .int 0, .int 0, .ref mq17, .ref mq18, .int (-1), .int 0, .ref mq19, .int 0, .long 0, .ref mq20, .int 0, .int 0, .ref mq21, .ref mq22, .ref mq23, .int 0])), (mq4, .inl (cI, 5, .inl (fun _ => 0))), (mq5, .inl (cI, 5, .inl (fun _ => 0))), (mq11, .inl (cI, 3, .inl (fun _ => 0)))]) [0, 1, 2, 3] (by decide) rfl
    have hFc := va_free (wc := [(mh0, .inr (11, [.int 0, .ref mq1, .int 0, .int 0, .int 0, .int 0, .ref mq2, .ref mq3, .ref mq4, .ref mq5, .ref mq6, .ref mq7, .ref mq8, .int 0, .int 0, .ref mq9, .ref mq10, .ref mq11, .ref mq12, .ref mq13, .int 0, .int 0, .ref mq14, .ref mq15, .ref mq16, .int 0, .int 0, .ref mq17, .ref mq18, .int (-1), .int 0, .ref mq19, .int 0, .long 0, .ref mq20, .int 0, .int 0, .ref mq21, .ref mq22, .ref mq23, .int 0])), (mq4, .inl (cI, 5, .inl (fun _ => 0))), (mq5, .inl (cI, 5, .inl (fun _ => 0))), (mq11, .inl (cI, 3, .inl (fun _ => 0)))]) hD hS hA [0, 1, 2, 3] rfl
    refine va_calli (va_runV (As := [.int (xs 1)]) (rest := [.int (-2)]) ⟨hx, hb, hml, hown, hts⟩ (c_X11_fault l dC dI cI cJ mh0 mq1 mq2 mq3 mq4 mq5 mq6 mq7 mq8 mq9 mq10 mq11 mq12 mq13 mq14 mq15 mq16 mq17 mq18 mq19 mq20 mq21 mq22 mq23 H.size (xs 1)) (cwV 1 hts (zgV qw1266 qw1267 qw1268 qw108 qw1269) rfl rfl rfl hd_X11_fault ⟨Nat.le_of_ble_eq_true rfl, Nat.le_of_ble_eq_true rfl⟩) (zPV hPc hK hDc (va_recv hK hP (ci := 11) (q0 := 0) rfl rfl)) rfl rfl hl.1 rfl (lv_room (Nat.le_of_ble_eq_true rfl)) dL_law_363 ⟨Nat.le_of_ble_eq_true rfl, Nat.le_of_ble_eq_true rfl⟩) hS (fun q _ h => hFc q h) hFc (fun r_6 u t H locs ht hvm hw hB hz1 hk1 hS => ?_)
    obtain ⟨hP, hD⟩ := va_join (wr := []) (w1 := []) hP hD [0, 1, 2, 3] [] rfl rfl (by decide) (by decide) hk1 hFc zP0 zD0
    have hP : va_P (dC, dI) vwCl [] H := hP
    have hD : va_D (fun q : Nat => s.heap.size ≤ q) [] := hD
    rcases hw with ⟨c_6_0, c_6_1, rfl⟩ | ⟨c_6_0, c_6_1, rfl⟩ | ⟨c_6_0, rfl⟩
    · skip
      have i_6_0 : ¬ (xs 1).toInt = 0 := z6 rfl (by decide) c_6_0
      have i_6_1 : ¬ (xs 1).toInt = 1 := z6 rfl (by decide) c_6_1
      refine lv_icmp_eq (tgt := 1825) hx hb dL_law_366 (by decide) (fun _ => ?_) (fun c => absurd (by decide) c)
      exact law_end C0 hS (lv_sub hl [0, 4] rfl)
    · skip
      have i_6_0 : ¬ (xs 1).toInt = 0 := z6 rfl (by decide) c_6_0
      have i_6_1 : (xs 1).toInt = 1 := z5 rfl (by decide) c_6_1
      exfalso; omega
    · skip
      have i_6_0 : (xs 1).toInt = 0 := z5 rfl (by decide) c_6_0
      exfalso; omega
  · skip
    have i_3_0 : ¬ (xs 1).toInt = 0 := z6 rfl (by decide) c_3_0
    have i_3_1 : (xs 1).toInt = 1 := z5 rfl (by decide) c_3_1
    refine lv_aload_n hx hb dL_law_356 rfl (lv_at hl 2 rfl) ?_
    refine lv_aload_n hx hb dL_law_357 rfl (lv_at hl 0 rfl) ?_
    refine lv_iload hx hb dL_law_358 (lv_at hl 4 rfl) ?_
    refine lv_iconst (v := 1) hx hb dL_law_360 (by decide) ?_
    refine lv_iadd hx hb dL_law_361 ?_
    refine lv_topi (fun v_7 ev_7 => ?_)
    obtain rfl : v_7 = 1 := ev_7.trans (by decide)
    refine va_sld hx hb hX hbl hbA hS (by unfold vp_in; decide) dL_law_362 ?_
    refine lv_topi (fun v_8 ev_8 => ?_)
    obtain rfl : v_8 = xs 1 := ev_8
    have hPc := hP.sub (ws' := [(mh0, .inr (11, [.int 0, .ref mq1, .int 0, .int 0, .int 0, .int 0, .ref mq2, .ref mq3, .ref mq4, .ref mq5, .ref mq6, .ref mq7, .ref mq8, .int 0, .int 0, .ref mq9, .ref mq10, .ref mq11, .ref mq12, .ref mq13, .int 0, .int 0, .ref mq14, .ref mq15, .ref mq16, .int 0, .int 0, .ref mq17, .ref mq18, .int (-1), .int 0, .ref mq19, .int 0, .long 0, .ref mq20, .int 0, .int 0, .ref mq21, .ref mq22, .ref mq23, .int 0])), (mq4, .inl (cI, 5, .inl (fun _ => 0))), (mq5, .inl (cI, 5, .inl (fun _ => 0))), (mq11, .inl (cI, 3, .inl (fun _ => 0)))]) [0, 1, 2, 3] rfl
    have hDc := hD.sub (ws' := [(mh0, .inr (11, [.int 0, .ref mq1, .int 0, .int 0, .int 0, .int 0, .ref mq2, .ref mq3, .ref mq4, .ref mq5, .ref mq6, .ref mq7, .ref mq8, .int 0, .int 0, .ref mq9, .ref mq10, .ref mq11, .ref mq12, .ref mq13, .int 0, .int 0, .ref mq14, .ref mq15, .ref mq16, .int 0, .int 0, .ref mq17, .ref mq18, .int (-1), .int 0, .ref mq19, .int 0, .long 0, .ref mq20, .int 0, .int 0, .ref mq21, .ref mq22, .ref mq23, .int 0])), (mq4, .inl (cI, 5, .inl (fun _ => 0))), (mq5, .inl (cI, 5, .inl (fun _ => 0))), (mq11, .inl (cI, 3, .inl (fun _ => 0)))]) [0, 1, 2, 3] (by decide) rfl
    have hFc := va_free (wc := [(mh0, .inr (11, [.int 0, .ref mq1, .int 0, .int 0, .int 0, .int 0, .ref mq2, .ref mq3, .ref mq4, .ref mq5, .ref mq6, .ref mq7, .ref mq8, .int 0, .int 0, .ref mq9, .ref mq10, .ref mq11, .ref mq12, .ref mq13, .int 0, .int 0, .ref mq14, .ref mq15, .ref mq16, .int 0, .int 0, .ref mq17, .ref mq18, .int (-1), .int 0, .ref mq19, .int 0, .long 0, .ref mq20, .int 0, .int 0, .ref mq21, .ref mq22, .ref mq23, .int 0])), (mq4, .inl (cI, 5, .inl (fun _ => 0))), (mq5, .inl (cI, 5, .inl (fun _ => 0))), (mq11, .inl (cI, 3, .inl (fun _ => 0)))]) hD hS hA [0, 1, 2, 3] rfl
    refine va_calli (va_runV (As := [.int (xs 1)]) (rest := [.int 0]) ⟨hx, hb, hml, hown, hts⟩ (c_X11_fault l dC dI cI cJ mh0 mq1 mq2 mq3 mq4 mq5 mq6 mq7 mq8 mq9 mq10 mq11 mq12 mq13 mq14 mq15 mq16 mq17 mq18 mq19 mq20 mq21 mq22 mq23 H.size (xs 1)) (cwV 1 hts (zgV qw1266 qw1267 qw1268 qw108 qw1269) rfl rfl rfl hd_X11_fault ⟨Nat.le_of_ble_eq_true rfl, Nat.le_of_ble_eq_true rfl⟩) (zPV hPc hK hDc (va_recv hK hP (ci := 11) (q0 := 0) rfl rfl)) rfl rfl hl.1 rfl (lv_room (Nat.le_of_ble_eq_true rfl)) dL_law_363 ⟨Nat.le_of_ble_eq_true rfl, Nat.le_of_ble_eq_true rfl⟩) hS (fun q _ h => hFc q h) hFc (fun r_9 u t H locs ht hvm hw hB hz1 hk1 hS => ?_)
    obtain ⟨hP, hD⟩ := va_join (wr := []) (w1 := []) hP hD [0, 1, 2, 3] [] rfl rfl (by decide) (by decide) hk1 hFc zP0 zD0
    have hP : va_P (dC, dI) vwCl [] H := hP
    have hD : va_D (fun q : Nat => s.heap.size ≤ q) [] := hD
    rcases hw with ⟨c_9_0, c_9_1, rfl⟩ | ⟨c_9_0, c_9_1, rfl⟩ | ⟨c_9_0, rfl⟩
    · skip
      have i_9_0 : ¬ (xs 1).toInt = 0 := z6 rfl (by decide) c_9_0
      have i_9_1 : ¬ (xs 1).toInt = 1 := z6 rfl (by decide) c_9_1
      exfalso; omega
    · skip
      have i_9_0 : ¬ (xs 1).toInt = 0 := z6 rfl (by decide) c_9_0
      have i_9_1 : (xs 1).toInt = 1 := z5 rfl (by decide) c_9_1
      refine lv_icmp_eq (tgt := 1825) hx hb dL_law_366 (by decide) (fun _ => ?_) (fun c => absurd (by decide) c)
      exact law_end C0 hS (lv_sub hl [0, 4] rfl)
    · skip
      have i_9_0 : (xs 1).toInt = 0 := z5 rfl (by decide) c_9_0
      exfalso; omega
  · skip
    have i_3_0 : (xs 1).toInt = 0 := z5 rfl (by decide) c_3_0
    refine lv_aload_n hx hb dL_law_356 rfl (lv_at hl 2 rfl) ?_
    refine lv_aload_n hx hb dL_law_357 rfl (lv_at hl 0 rfl) ?_
    refine lv_iload hx hb dL_law_358 (lv_at hl 4 rfl) ?_
    refine lv_iconst (v := 1) hx hb dL_law_360 (by decide) ?_
    refine lv_iadd hx hb dL_law_361 ?_
    refine lv_topi (fun v_10 ev_10 => ?_)
    obtain rfl : v_10 = 1 := ev_10.trans (by decide)
    refine va_sld hx hb hX hbl hbA hS (by unfold vp_in; decide) dL_law_362 ?_
    refine lv_topi (fun v_11 ev_11 => ?_)
    obtain rfl : v_11 = xs 1 := ev_11
    have hPc := hP.sub (ws' := [(mh0, .inr (11, [.int 0, .ref mq1, .int 0, .int 0, .int 0, .int 0, .ref mq2, .ref mq3, .ref mq4, .ref mq5, .ref mq6, .ref mq7, .ref mq8, .int 0, .int 0, .ref mq9, .ref mq10, .ref mq11, .ref mq12, .ref mq13, .int 0, .int 0, .ref mq14, .ref mq15, .ref mq16, .int 0, .int 0, .ref mq17, .ref mq18, .int (-1), .int 0, .ref mq19, .int 0, .long 0, .ref mq20, .int 0, .int 0, .ref mq21, .ref mq22, .ref mq23, .int 0])), (mq4, .inl (cI, 5, .inl (fun _ => 0))), (mq5, .inl (cI, 5, .inl (fun _ => 0))), (mq11, .inl (cI, 3, .inl (fun _ => 0)))]) [0, 1, 2, 3] rfl
    have hDc := hD.sub (ws' := [(mh0, .inr (11, [.int 0, .ref mq1, .int 0, .int 0, .int 0, .int 0, .ref mq2, .ref mq3, .ref mq4, .ref mq5, .ref mq6, .ref mq7, .ref mq8, .int 0, .int 0, .ref mq9, .ref mq10, .ref mq11, .ref mq12, .ref mq13, .int 0, .int 0, .ref mq14, .ref mq15, .ref mq16, .int 0, .int 0, .ref mq17, .ref mq18, .int (-1), .int 0, .ref mq19, .int 0, .long 0, .ref mq20, .int 0, .int 0, .ref mq21, .ref mq22, .ref mq23, .int 0])), (mq4, .inl (cI, 5, .inl (fun _ => 0))), (mq5, .inl (cI, 5, .inl (fun _ => 0))), (mq11, .inl (cI, 3, .inl (fun _ => 0)))]) [0, 1, 2, 3] (by decide) rfl
    have hFc := va_free (wc := [(mh0, .inr (11, [.int 0, .ref mq1, .int 0, .int 0, .int 0, .int 0, .ref mq2, .ref mq3, .ref mq4, .ref mq5, .ref mq6, .ref mq7, .ref mq8, .int 0, .int 0, .ref mq9, .ref mq10, .ref mq11, .ref mq12, .ref mq13, .int 0, .int 0, .ref mq14, .ref mq15, .ref mq16, .int 0, .int 0, .ref mq17, .ref mq18, .int (-1), .int 0, .ref mq19, .int 0, .long 0, .ref mq20, .int 0, .int 0, .ref mq21, .ref mq22, .ref mq23, .int 0])), (mq4, .inl (cI, 5, .inl (fun _ => 0))), (mq5, .inl (cI, 5, .inl (fun _ => 0))), (mq11, .inl (cI, 3, .inl (fun _ => 0)))]) hD hS hA [0, 1, 2, 3] rfl
    refine va_calli (va_runV (As := [.int (xs 1)]) (rest := [.int 0]) ⟨hx, hb, hml, hown, hts⟩ (c_X11_fault l dC dI cI cJ mh0 mq1 mq2 mq3 mq4 mq5 mq6 mq7 mq8 mq9 mq10 mq11 mq12 mq13 mq14 mq15 mq16 mq17 mq18 mq19 mq20 mq21 mq22 mq23 H.size (xs 1)) (cwV 1 hts (zgV qw1266 qw1267 qw1268 qw108 qw1269) rfl rfl rfl hd_X11_fault ⟨Nat.le_of_ble_eq_true rfl, Nat.le_of_ble_eq_true rfl⟩) (zPV hPc hK hDc (va_recv hK hP (ci := 11) (q0 := 0) rfl rfl)) rfl rfl hl.1 rfl (lv_room (Nat.le_of_ble_eq_true rfl)) dL_law_363 ⟨Nat.le_of_ble_eq_true rfl, Nat.le_of_ble_eq_true rfl⟩) hS (fun q _ h => hFc q h) hFc (fun r_12 u t H locs ht hvm hw hB hz1 hk1 hS => ?_)
    obtain ⟨hP, hD⟩ := va_join (wr := []) (w1 := []) hP hD [0, 1, 2, 3] [] rfl rfl (by decide) (by decide) hk1 hFc zP0 zD0
    have hP : va_P (dC, dI) vwCl [] H := hP
    have hD : va_D (fun q : Nat => s.heap.size ≤ q) [] := hD
    rcases hw with ⟨c_12_0, c_12_1, rfl⟩ | ⟨c_12_0, c_12_1, rfl⟩ | ⟨c_12_0, rfl⟩
    · skip
      have i_12_0 : ¬ (xs 1).toInt = 0 := z6 rfl (by decide) c_12_0
      have i_12_1 : ¬ (xs 1).toInt = 1 := z6 rfl (by decide) c_12_1
      exfalso; omega
    · skip
      have i_12_0 : ¬ (xs 1).toInt = 0 := z6 rfl (by decide) c_12_0
      have i_12_1 : (xs 1).toInt = 1 := z5 rfl (by decide) c_12_1
      exfalso; omega
    · skip
      have i_12_0 : (xs 1).toInt = 0 := z5 rfl (by decide) c_12_0
      refine lv_icmp_eq (tgt := 1825) hx hb dL_law_366 (by decide) (fun _ => ?_) (fun c => absurd (by decide) c)
      exact law_end C0 hS (lv_sub hl [0, 4] rfl)
set_option maxHeartbeats 4000000 in
set_option maxRecDepth 100000 in
theorem law_case_3 {p : Program} {l : Launch} {e : Env} {s : State} {m : MethodId} {below : List Frame} {meth : Method} {c : Code} {b : Nat} {xs : Nat → Int32} {dC : Nat → ClassId} {dI : Nat → Nat → Nat} {cI cJ : ClassId} {xh0 mh0 o0 xq1 xq4 xq6 xq9 xq14 xq19 xq20 xq25 xq30 xq33 xq39 xq45 xq47 xq3 xq8 xq11 xq12 xq13 mq1 mq2 mq3 mq4 mq5 mq6 mq7 mq8 mq9 mq10 mq11 mq12 mq13 mq14 mq15 mq16 mq17 mq18 mq19 mq20 mq21 mq22 mq23 g0 : Nat} (hl0 : l.stackTraces = false) (C0 : lw_At p s m meth c b 7 xs) (hK : va_K (dC, dI) vwCl [(cI, .int), (cJ, .long)] s) (hF : zF g0 (fun q : Nat => s.heap.size ≤ q) s) (hG : zG (fun q : Nat => s.heap.size ≤ q) s) {H : Heap} {locs : List Loc} (hP : va_P (dC, dI) vwCl [(xh0, .inr (10, [.ref xq1, .ref xq4, .ref xq6, .ref xq9, .ref xq14, .ref xq19, .ref xq20, .ref xq25, .ref xq30, .ref xq33, .ref xq39, .ref xq45, .ref xq47, .int 0, .int (-1), .int 0, .int 0])), (xq1, .inr (9, [.ref xq3, .int 0, .int 0])), (xq4, .inr (2, [.null, .null, .int 0])), (xq6, .inr (5, [.ref xq8, .int 0, .null])), (xq9, .inr (1, [.ref xq11, .ref xq12, .ref xq13, .int 0, .int 0])), (xq11, .inl (cI, 3, .inl (fun _ => 0))), (mh0, .inr (11, [.int 0, .ref mq1, .int 0, .int 0, .int 0, .int 0, .ref mq2, .ref mq3, .ref mq4, .ref mq5, .ref mq6, .ref mq7, .ref mq8, .int 0, .int 0, .ref mq9, .ref mq10, .ref mq11, .ref mq12, .ref mq13, .int 0, .int 0, .ref mq14, .ref mq15, .ref mq16, .int 0, .int 0, .ref mq17, .ref mq18, .int (-1), .int 0, .ref mq19, .int 0, .long 0, .ref mq20, .int 0, .int 0, .ref mq21, .ref mq22, .ref mq23, .int 0])), (mq4, .inl (cI, 5, .inl (fun _ => 0))), (mq5, .inl (cI, 5, .inl (fun _ => 0))), (mq11, .inl (cI, 3, .inl (fun _ => 0)))] H) (hD : va_D (fun q : Nat => s.heap.size ≤ q) [(xh0, .inr (10, [.ref xq1, .ref xq4, .ref xq6, .ref xq9, .ref xq14, .ref xq19, .ref xq20, .ref xq25, .ref xq30, .ref xq33, .ref xq39, .ref xq45, .ref xq47, .int 0, .int (-1), .int 0, .int 0])), (xq1, .inr (9, [.ref xq3, .int 0, .int 0])), (xq4, .inr (2, [.null, .null, .int 0])), (xq6, .inr (5, [.ref xq8, .int 0, .null])), (xq9, .inr (1, [.ref xq11, .ref xq12, .ref xq13, .int 0, .int 0])), (xq11, .inl (cI, 3, .inl (fun _ => 0))), (mh0, .inr (11, [.int 0, .ref mq1, .int 0, .int 0, .int 0, .int 0, .ref mq2, .ref mq3, .ref mq4, .ref mq5, .ref mq6, .ref mq7, .ref mq8, .int 0, .int 0, .ref mq9, .ref mq10, .ref mq11, .ref mq12, .ref mq13, .int 0, .int 0, .ref mq14, .ref mq15, .ref mq16, .int 0, .int 0, .ref mq17, .ref mq18, .int (-1), .int 0, .ref mq19, .int 0, .long 0, .ref mq20, .int 0, .int 0, .ref mq21, .ref mq22, .ref mq23, .int 0])), (mq4, .inl (cI, 5, .inl (fun _ => 0))), (mq5, .inl (cI, 5, .inl (fun _ => 0))), (mq11, .inl (cI, 3, .inl (fun _ => 0)))]) (hS : va_S (fun q : Nat => s.heap.size ≤ q) s.heap H locs) {ls : Array Slot} (hl : lv_has ls 7 [(0, .ref b), (1, .ref xh0), (2, .ref mh0), (3, .ref o0), (4, .int 0)]) : W p l e room_1 s m #[Value.ref b] below meth c H locs 62 13545 (lw_Z below #[Value.ref b] s) (F0 m 371 ls []) := by
  obtain ⟨hx, hb, hr, hml, hown, hts0, hX, hbl, hlocks, hgv⟩ := id C0
  have hts : ∀ w ∈ wA, w.before #[Value.ref b] s = true := fun w h => hts0 w (List.mem_filter.mp h).1
  have hown : s.vm.findClass RL = some m.cls := hown
  have hA : ∀ q : Nat, s.heap.size ≤ q → (fun q : Nat => s.heap.size ≤ q) q := fun _ h => h
  have hbA : ¬ (fun q : Nat => s.heap.size ≤ q) b := Nat.not_le.mpr hbl
  refine lv_aload_n hx hb dL_law_371 rfl (lv_at hl 1 rfl) ?_
  refine lv_aload_n hx hb dL_law_372 rfl (lv_at hl 0 rfl) ?_
  refine lv_iload hx hb dL_law_373 (lv_at hl 4 rfl) ?_
  refine lv_iconst (v := 1) hx hb dL_law_375 (by decide) ?_
  refine lv_iadd hx hb dL_law_376 ?_
  refine lv_topi (fun v_1 ev_1 => ?_)
  obtain rfl : v_1 = 1 := ev_1.trans (by decide)
  refine va_sld hx hb hX hbl hbA hS (by unfold vp_in; decide) dL_law_377 ?_
  refine lv_topi (fun v_2 ev_2 => ?_)
  obtain rfl : v_2 = xs 1 := ev_2
  have hPc := hP.sub (ws' := [(xh0, .inr (10, [.ref xq1, .ref xq4, .ref xq6, .ref xq9, .ref xq14, .ref xq19, .ref xq20, .ref xq25, .ref xq30, .ref xq33, .ref xq39, .ref xq45, .ref xq47, .int 0, .int (-1), .int 0, .int 0])), (xq1, .inr (9, [.ref xq3, .int 0, .int 0])), (xq4, .inr (2, [.null, .null, .int 0])), (xq6, .inr (5, [.ref xq8, .int 0, .null])), (xq9, .inr (1, [.ref xq11, .ref xq12, .ref xq13, .int 0, .int 0])), (xq11, .inl (cI, 3, .inl (fun _ => 0)))]) [0, 1, 2, 3, 4, 5] rfl
  have hDc := hD.sub (ws' := [(xh0, .inr (10, [.ref xq1, .ref xq4, .ref xq6, .ref xq9, .ref xq14, .ref xq19, .ref xq20, .ref xq25, .ref xq30, .ref xq33, .ref xq39, .ref xq45, .ref xq47, .int 0, .int (-1), .int 0, .int 0])), (xq1, .inr (9, [.ref xq3, .int 0, .int 0])), (xq4, .inr (2, [.null, .null, .int 0])), (xq6, .inr (5, [.ref xq8, .int 0, .null])), (xq9, .inr (1, [.ref xq11, .ref xq12, .ref xq13, .int 0, .int 0])), (xq11, .inl (cI, 3, .inl (fun _ => 0)))]) [0, 1, 2, 3, 4, 5] (by decide) rfl
  have hFc := va_free (wc := [(xh0, .inr (10, [.ref xq1, .ref xq4, .ref xq6, .ref xq9, .ref xq14, .ref xq19, .ref xq20, .ref xq25, .ref xq30, .ref xq33, .ref xq39, .ref xq45, .ref xq47, .int 0, .int (-1), .int 0, .int 0])), (xq1, .inr (9, [.ref xq3, .int 0, .int 0])), (xq4, .inr (2, [.null, .null, .int 0])), (xq6, .inr (5, [.ref xq8, .int 0, .null])), (xq9, .inr (1, [.ref xq11, .ref xq12, .ref xq13, .int 0, .int 0])), (xq11, .inl (cI, 3, .inl (fun _ => 0)))]) hD hS hA [0, 1, 2, 3, 4, 5] rfl
  refine va_calli (va_runV (As := [.int (xs 1)]) (rest := []) ⟨hx, hb, hml, hown, hts⟩ (c_X10_text l dC dI cI cJ xh0 xq1 xq4 xq6 xq9 xq14 xq19 xq20 xq25 xq30 xq33 xq39 xq45 xq47 xq3 xq8 xq11 xq12 xq13 g0 H.size (xs 1)) (cwV 1 hts (zgV qw515 qw516 qw517 qw98 qw518) rfl rfl rfl hd_X10_text ⟨Nat.le_of_ble_eq_true rfl, Nat.le_of_ble_eq_true rfl⟩) (zPFV hPc hK hDc (va_recv hK hP (ci := 10) (q0 := 0) rfl rfl) (zF_call hF hS hFc)) rfl rfl hl.1 rfl (lv_room (Nat.le_of_ble_eq_true rfl)) dL_law_378 ⟨Nat.le_of_ble_eq_true rfl, Nat.le_of_ble_eq_true rfl⟩) hS (fun q _ h => hFc q h) hFc (fun r_3 u t H locs ht hvm hw hB hz1 hk1 hS => ?_)
  obtain ⟨hP, hD⟩ := va_join (wr := [(mh0, .inr (11, [.int 0, .ref mq1, .int 0, .int 0, .int 0, .int 0, .ref mq2, .ref mq3, .ref mq4, .ref mq5, .ref mq6, .ref mq7, .ref mq8, .int 0, .int 0, .ref mq9, .ref mq10, .ref mq11, .ref mq12, .ref mq13, .int 0, .int 0, .ref mq14, .ref mq15, .ref mq16, .int 0, .int 0, .ref mq17, .ref mq18, .int (-1), .int 0, .ref mq19, .int 0, .long 0, .ref mq20, .int 0, .int 0, .ref mq21, .ref mq22, .ref mq23, .int 0])), (mq4, .inl (cI, 5, .inl (fun _ => 0))), (mq5, .inl (cI, 5, .inl (fun _ => 0))), (mq11, .inl (cI, 3, .inl (fun _ => 0)))]) (w1 := []) hP hD [0, 1, 2, 3, 4, 5] [6, 7, 8, 9] rfl rfl (by decide) (by decide) hk1 hFc zP0 zD0
  have hP : va_P (dC, dI) vwCl [(mh0, .inr (11, [.int 0, .ref mq1, .int 0, .int 0, .int 0, .int 0, .ref mq2, .ref mq3, .ref mq4, .ref mq5, .ref mq6, .ref mq7, .ref mq8, .int 0, .int 0, .ref mq9, .ref mq10, .ref mq11, .ref mq12, .ref mq13, .int 0, .int 0, .ref mq14, .ref mq15, .ref mq16, .int 0, .int 0, .ref mq17, .ref mq18, .int (-1), .int 0, .ref mq19, .int 0, .long 0, .ref mq20, .int 0, .int 0, .ref mq21, .ref mq22, .ref mq23, .int 0])), (mq4, .inl (cI, 5, .inl (fun _ => 0))), (mq5, .inl (cI, 5, .inl (fun _ => 0))), (mq11, .inl (cI, 3, .inl (fun _ => 0)))] H := hP
  have hD : va_D (fun q : Nat => s.heap.size ≤ q) [(mh0, .inr (11, [.int 0, .ref mq1, .int 0, .int 0, .int 0, .int 0, .ref mq2, .ref mq3, .ref mq4, .ref mq5, .ref mq6, .ref mq7, .ref mq8, .int 0, .int 0, .ref mq9, .ref mq10, .ref mq11, .ref mq12, .ref mq13, .int 0, .int 0, .ref mq14, .ref mq15, .ref mq16, .int 0, .int 0, .ref mq17, .ref mq18, .int (-1), .int 0, .ref mq19, .int 0, .long 0, .ref mq20, .int 0, .int 0, .ref mq21, .ref mq22, .ref mq23, .int 0])), (mq4, .inl (cI, 5, .inl (fun _ => 0))), (mq5, .inl (cI, 5, .inl (fun _ => 0))), (mq11, .inl (cI, 3, .inl (fun _ => 0)))] := hD
  have hw : r_3 = (-1) := hw
  subst hw
  refine lv_aload_n hx hb dL_law_381 rfl (lv_at hl 2 rfl) ?_
  refine lv_aload_n hx hb dL_law_382 rfl (lv_at hl 0 rfl) ?_
  refine lv_iload hx hb dL_law_383 (lv_at hl 4 rfl) ?_
  refine lv_iconst (v := 1) hx hb dL_law_385 (by decide) ?_
  refine lv_iadd hx hb dL_law_386 ?_
  refine lv_topi (fun v_4 ev_4 => ?_)
  obtain rfl : v_4 = 1 := ev_4.trans (by decide)
  refine va_sld hx hb hX hbl hbA hS (by unfold vp_in; decide) dL_law_387 ?_
  refine lv_topi (fun v_5 ev_5 => ?_)
  obtain rfl : v_5 = xs 1 := ev_5
  have hPc := hP.sub (ws' := [(mh0, .inr (11, [.int 0, .ref mq1, .int 0, .int 0, .int 0, .int 0, .ref mq2, .ref mq3, .ref mq4, .ref mq5, .ref mq6, .ref mq7, .ref mq8, .int 0, .int 0, .ref mq9, .ref mq10, .ref mq11, .ref mq12, .ref mq13, .int 0, .int 0, .ref mq14, .ref mq15, .ref mq16, .int 0, .int 0, .ref mq17, .ref mq18, .int (-1), .int 0, .ref mq19, .int 0, .long 0, .ref mq20, .int 0, .int 0, .ref mq21, .ref mq22, .ref mq23, .int 0])), (mq4, .inl (cI, 5, .inl (fun _ => 0))), (mq5, .inl (cI, 5, .inl (fun _ => 0))), (mq11, .inl (cI, 3, .inl (fun _ => 0)))]) [0, 1, 2, 3] rfl
  have hDc := hD.sub (ws' := [(mh0, .inr (11, [.int 0, .ref mq1, .int 0, .int 0, .int 0, .int 0, .ref mq2, .ref mq3, .ref mq4, .ref mq5, .ref mq6, .ref mq7, .ref mq8, .int 0, .int 0, .ref mq9, .ref mq10, .ref mq11, .ref mq12, .ref mq13, .int 0, .int 0, .ref mq14, .ref mq15, .ref mq16, .int 0, .int 0, .ref mq17, .ref mq18, .int (-1), .int 0, .ref mq19, .int 0, .long 0, .ref mq20, .int 0, .int 0, .ref mq21, .ref mq22, .ref mq23, .int 0])), (mq4, .inl (cI, 5, .inl (fun _ => 0))), (mq5, .inl (cI, 5, .inl (fun _ => 0))), (mq11, .inl (cI, 3, .inl (fun _ => 0)))]) [0, 1, 2, 3] (by decide) rfl
  have hFc := va_free (wc := [(mh0, .inr (11, [.int 0, .ref mq1, .int 0, .int 0, .int 0, .int 0, .ref mq2, .ref mq3, .ref mq4, .ref mq5, .ref mq6, .ref mq7, .ref mq8, .int 0, .int 0, .ref mq9, .ref mq10, .ref mq11, .ref mq12, .ref mq13, .int 0, .int 0, .ref mq14, .ref mq15, .ref mq16, .int 0, .int 0, .ref mq17, .ref mq18, .int (-1), .int 0, .ref mq19, .int 0, .long 0, .ref mq20, .int 0, .int 0, .ref mq21, .ref mq22, .ref mq23, .int 0])), (mq4, .inl (cI, 5, .inl (fun _ => 0))), (mq5, .inl (cI, 5, .inl (fun _ => 0))), (mq11, .inl (cI, 3, .inl (fun _ => 0)))]) hD hS hA [0, 1, 2, 3] rfl
  refine va_calli (va_runV (As := [.int (xs 1)]) (rest := [.int (-1)]) ⟨hx, hb, hml, hown, hts⟩ (c_X11_text l dC dI cI cJ mh0 mq1 mq2 mq3 mq4 mq5 mq6 mq7 mq8 mq9 mq10 mq11 mq12 mq13 mq14 mq15 mq16 mq17 mq18 mq19 mq20 mq21 mq22 mq23 H.size (xs 1)) (cwV 1 hts (zgV qw1382 qw1383 qw1384 qw108 qw1385) rfl rfl rfl hd_X11_text ⟨Nat.le_of_ble_eq_true rfl, Nat.le_of_ble_eq_true rfl⟩) (zPV hPc hK hDc (va_recv hK hP (ci := 11) (q0 := 0) rfl rfl)) rfl rfl hl.1 rfl (lv_room (Nat.le_of_ble_eq_true rfl)) dL_law_388 ⟨Nat.le_of_ble_eq_true rfl, Nat.le_of_ble_eq_true rfl⟩) hS (fun q _ h => hFc q h) hFc (fun r_6 u t H locs ht hvm hw hB hz1 hk1 hS => ?_)
  obtain ⟨hP, hD⟩ := va_join (wr := []) (w1 := []) hP hD [0, 1, 2, 3] [] rfl rfl (by decide) (by decide) hk1 hFc zP0 zD0
  have hP : va_P (dC, dI) vwCl [] H := hP
  have hD : va_D (fun q : Nat => s.heap.size ≤ q) [] := hD
  have hw : r_6 = (-1) := hw
  subst hw
  refine lv_icmp_eq (tgt := 1825) hx hb dL_law_391 (by decide) (fun _ => ?_) (fun c => absurd (by decide) c)
  exact law_end C0 hS (lv_sub hl [0, 4] rfl)
set_option maxHeartbeats 4000000 in
set_option maxRecDepth 100000 in
theorem law_case_4 {p : Program} {l : Launch} {e : Env} {s : State} {m : MethodId} {below : List Frame} {meth : Method} {c : Code} {b : Nat} {xs : Nat → Int32} {dC : Nat → ClassId} {dI : Nat → Nat → Nat} {cI cJ : ClassId} {xh0 mh0 o0 xq1 xq4 xq6 xq9 xq14 xq19 xq20 xq25 xq30 xq33 xq39 xq45 xq47 xq16 xq17 xq18 mq1 mq2 mq3 mq4 mq5 mq6 mq7 mq8 mq9 mq10 mq11 mq12 mq13 mq14 mq15 mq16 mq17 mq18 mq19 mq20 mq21 mq22 mq23 g0 : Nat} (hl0 : l.stackTraces = false) (C0 : lw_At p s m meth c b 7 xs) (hK : va_K (dC, dI) vwCl [(cI, .int), (cJ, .long)] s) (hF : zF g0 (fun q : Nat => s.heap.size ≤ q) s) (hG : zG (fun q : Nat => s.heap.size ≤ q) s) {H : Heap} {locs : List Loc} (hP : va_P (dC, dI) vwCl [(xh0, .inr (10, [.ref xq1, .ref xq4, .ref xq6, .ref xq9, .ref xq14, .ref xq19, .ref xq20, .ref xq25, .ref xq30, .ref xq33, .ref xq39, .ref xq45, .ref xq47, .int 0, .int (-1), .int 0, .int 0])), (xq14, .inr (1, [.ref xq16, .ref xq17, .ref xq18, .int 0, .int 0])), (mh0, .inr (11, [.int 0, .ref mq1, .int 0, .int 0, .int 0, .int 0, .ref mq2, .ref mq3, .ref mq4, .ref mq5, .ref mq6, .ref mq7, .ref mq8, .int 0, .int 0, .ref mq9, .ref mq10, .ref mq11, .ref mq12, .ref mq13, .int 0, .int 0, .ref mq14, .ref mq15, .ref mq16, .int 0, .int 0, .ref mq17, .ref mq18, .int (-1), .int 0, .ref mq19, .int 0, .long 0, .ref mq20, .int 0, .int 0, .ref mq21, .ref mq22, .ref mq23, .int 0]))] H) (hD : va_D (fun q : Nat => s.heap.size ≤ q) [(xh0, .inr (10, [.ref xq1, .ref xq4, .ref xq6, .ref xq9, .ref xq14, .ref xq19, .ref xq20, .ref xq25, .ref xq30, .ref xq33, .ref xq39, .ref xq45, .ref xq47, .int 0, .int (-1), .int 0, .int 0])), (xq14, .inr (1, [.ref xq16, .ref xq17, .ref xq18, .int 0, .int 0])), (mh0, .inr (11, [.int 0, .ref mq1, .int 0, .int 0, .int 0, .int 0, .ref mq2, .ref mq3, .ref mq4, .ref mq5, .ref mq6, .ref mq7, .ref mq8, .int 0, .int 0, .ref mq9, .ref mq10, .ref mq11, .ref mq12, .ref mq13, .int 0, .int 0, .ref mq14, .ref mq15, .ref mq16, .int 0, .int 0, .ref mq17, .ref mq18, .int (-1), .int 0, .ref mq19, .int 0, .long 0, .ref mq20, .int 0, .int 0, .ref mq21, .ref mq22, .ref mq23, .int 0]))]) (hS : va_S (fun q : Nat => s.heap.size ≤ q) s.heap H locs) {ls : Array Slot} (hl : lv_has ls 7 [(0, .ref b), (1, .ref xh0), (2, .ref mh0), (3, .ref o0), (4, .int 0)]) : W p l e room_1 s m #[Value.ref b] below meth c H locs 62 13545 (lw_Z below #[Value.ref b] s) (F0 m 396 ls []) := by
  obtain ⟨hx, hb, hr, hml, hown, hts0, hX, hbl, hlocks, hgv⟩ := id C0
  have hts : ∀ w ∈ wA, w.before #[Value.ref b] s = true := fun w h => hts0 w (List.mem_filter.mp h).1
  have hown : s.vm.findClass RL = some m.cls := hown
  have hA : ∀ q : Nat, s.heap.size ≤ q → (fun q : Nat => s.heap.size ≤ q) q := fun _ h => h
  have hbA : ¬ (fun q : Nat => s.heap.size ≤ q) b := Nat.not_le.mpr hbl
  refine lv_aload_n hx hb dL_law_396 rfl (lv_at hl 1 rfl) ?_
  refine lv_aload_n hx hb dL_law_397 rfl (lv_at hl 0 rfl) ?_
  refine lv_iload hx hb dL_law_398 (lv_at hl 4 rfl) ?_
  refine lv_iconst (v := 1) hx hb dL_law_400 (by decide) ?_
  refine lv_iadd hx hb dL_law_401 ?_
  refine lv_topi (fun v_1 ev_1 => ?_)
  obtain rfl : v_1 = 1 := ev_1.trans (by decide)
  refine va_sld hx hb hX hbl hbA hS (by unfold vp_in; decide) dL_law_402 ?_
  refine lv_topi (fun v_2 ev_2 => ?_)
  obtain rfl : v_2 = xs 1 := ev_2
  have hPc := hP.sub (ws' := [(xh0, .inr (10, [.ref xq1, .ref xq4, .ref xq6, .ref xq9, .ref xq14, .ref xq19, .ref xq20, .ref xq25, .ref xq30, .ref xq33, .ref xq39, .ref xq45, .ref xq47, .int 0, .int (-1), .int 0, .int 0])), (xq14, .inr (1, [.ref xq16, .ref xq17, .ref xq18, .int 0, .int 0]))]) [0, 1] rfl
  have hDc := hD.sub (ws' := [(xh0, .inr (10, [.ref xq1, .ref xq4, .ref xq6, .ref xq9, .ref xq14, .ref xq19, .ref xq20, .ref xq25, .ref xq30, .ref xq33, .ref xq39, .ref xq45, .ref xq47, .int 0, .int (-1), .int 0, .int 0])), (xq14, .inr (1, [.ref xq16, .ref xq17, .ref xq18, .int 0, .int 0]))]) [0, 1] (by decide) rfl
  have hFc := zfr hS hA
  refine va_calli (va_runV (As := [.int (xs 1)]) (rest := []) ⟨hx, hb, hml, hown, hts⟩ (c_X10_rule l dC dI cI cJ xh0 xq1 xq4 xq6 xq9 xq14 xq19 xq20 xq25 xq30 xq33 xq39 xq45 xq47 xq16 xq17 xq18 H.size (xs 1)) (cwV 1 hts (zgV qw580 qw581 qw582 qw98 qw583) rfl rfl rfl hd_X10_rule ⟨Nat.le_of_ble_eq_true rfl, Nat.le_of_ble_eq_true rfl⟩) (zPV hPc hK hDc (va_recv hK hP (ci := 10) (q0 := 0) rfl rfl)) rfl rfl hl.1 rfl (lv_room (Nat.le_of_ble_eq_true rfl)) dL_law_403 ⟨Nat.le_of_ble_eq_true rfl, Nat.le_of_ble_eq_true rfl⟩) hS (fun q _ h => hFc q h) hFc (fun r_3 u t H locs ht hvm hw hB hz1 hk1 hS => ?_)
  have hP := zkeep hP hk1
  have hw : r_3 = (-1) := hw
  subst hw
  refine lv_aload_n hx hb dL_law_406 rfl (lv_at hl 2 rfl) ?_
  refine lv_aload_n hx hb dL_law_407 rfl (lv_at hl 0 rfl) ?_
  refine lv_iload hx hb dL_law_408 (lv_at hl 4 rfl) ?_
  refine lv_iconst (v := 1) hx hb dL_law_410 (by decide) ?_
  refine lv_iadd hx hb dL_law_411 ?_
  refine lv_topi (fun v_4 ev_4 => ?_)
  obtain rfl : v_4 = 1 := ev_4.trans (by decide)
  refine va_sld hx hb hX hbl hbA hS (by unfold vp_in; decide) dL_law_412 ?_
  refine lv_topi (fun v_5 ev_5 => ?_)
  obtain rfl : v_5 = xs 1 := ev_5
  have hPc := hP.sub (ws' := [(mh0, .inr (11, [.int 0, .ref mq1, .int 0, .int 0, .int 0, .int 0, .ref mq2, .ref mq3, .ref mq4, .ref mq5, .ref mq6, .ref mq7, .ref mq8, .int 0, .int 0, .ref mq9, .ref mq10, .ref mq11, .ref mq12, .ref mq13, .int 0, .int 0, .ref mq14, .ref mq15, .ref mq16, .int 0, .int 0, .ref mq17, .ref mq18, .int (-1), .int 0, .ref mq19, .int 0, .long 0, .ref mq20, .int 0, .int 0, .ref mq21, .ref mq22, .ref mq23, .int 0]))]) [2] rfl
  have hDc := hD.sub (ws' := [(mh0, .inr (11, [.int 0, .ref mq1, .int 0, .int 0, .int 0, .int 0, .ref mq2, .ref mq3, .ref mq4, .ref mq5, .ref mq6, .ref mq7, .ref mq8, .int 0, .int 0, .ref mq9, .ref mq10, .ref mq11, .ref mq12, .ref mq13, .int 0, .int 0, .ref mq14, .ref mq15, .ref mq16, .int 0, .int 0, .ref mq17, .ref mq18, .int (-1), .int 0, .ref mq19, .int 0, .long 0, .ref mq20, .int 0, .int 0, .ref mq21, .ref mq22, .ref mq23, .int 0]))]) [2] (by decide) rfl
  have hFc := zfr hS hA
  refine va_calli (va_runV (As := [.int (xs 1)]) (rest := [.int (-1)]) ⟨hx, hb, hml, hown, hts⟩ (c_X11_rule l dC dI cI cJ mh0 mq1 mq2 mq3 mq4 mq5 mq6 mq7 mq8 mq9 mq10 mq11 mq12 mq13 mq14 mq15 mq16 mq17 mq18 mq19 mq20 mq21 mq22 mq23 H.size (xs 1)) (cwV 1 hts (zgV qw1398 qw1399 qw1400 qw108 qw1401) rfl rfl rfl hd_X11_rule ⟨Nat.le_of_ble_eq_true rfl, Nat.le_of_ble_eq_true rfl⟩) (zPV hPc hK hDc (va_recv hK hP (ci := 11) (q0 := 2) rfl rfl)) rfl rfl hl.1 rfl (lv_room (Nat.le_of_ble_eq_true rfl)) dL_law_413 ⟨Nat.le_of_ble_eq_true rfl, Nat.le_of_ble_eq_true rfl⟩) hS (fun q _ h => hFc q h) hFc (fun r_6 u t H locs ht hvm hw hB hz1 hk1 hS => ?_)
  have hP := zkeep hP hk1
  have hw : r_6 = (-1) := hw
  subst hw
  refine lv_icmp_eq (tgt := 1825) hx hb dL_law_416 (by decide) (fun _ => ?_) (fun c => absurd (by decide) c)
  exact law_end C0 hS (lv_sub hl [0, 4] rfl)
set_option maxHeartbeats 4000000 in
set_option maxRecDepth 100000 in
theorem law_case_5 {p : Program} {l : Launch} {e : Env} {s : State} {m : MethodId} {below : List Frame} {meth : Method} {c : Code} {b : Nat} {xs : Nat → Int32} {dC : Nat → ClassId} {dI : Nat → Nat → Nat} {cI cJ : ClassId} {xh0 mh0 o0 xq1 xq4 xq6 xq9 xq14 xq19 xq20 xq25 xq30 xq33 xq39 xq45 xq47 xq16 xq17 xq18 mq1 mq2 mq3 mq4 mq5 mq6 mq7 mq8 mq9 mq10 mq11 mq12 mq13 mq14 mq15 mq16 mq17 mq18 mq19 mq20 mq21 mq22 mq23 g0 : Nat} (hl0 : l.stackTraces = false) (C0 : lw_At p s m meth c b 7 xs) (hK : va_K (dC, dI) vwCl [(cI, .int), (cJ, .long)] s) (hF : zF g0 (fun q : Nat => s.heap.size ≤ q) s) (hG : zG (fun q : Nat => s.heap.size ≤ q) s) {H : Heap} {locs : List Loc} (hP : va_P (dC, dI) vwCl [(xh0, .inr (10, [.ref xq1, .ref xq4, .ref xq6, .ref xq9, .ref xq14, .ref xq19, .ref xq20, .ref xq25, .ref xq30, .ref xq33, .ref xq39, .ref xq45, .ref xq47, .int 0, .int (-1), .int 0, .int 0])), (xq14, .inr (1, [.ref xq16, .ref xq17, .ref xq18, .int 0, .int 0])), (mh0, .inr (11, [.int 0, .ref mq1, .int 0, .int 0, .int 0, .int 0, .ref mq2, .ref mq3, .ref mq4, .ref mq5, .ref mq6, .ref mq7, .ref mq8, .int 0, .int 0, .ref mq9, .ref mq10, .ref mq11, .ref mq12, .ref mq13, .int 0, .int 0, .ref mq14, .ref mq15, .ref mq16, .int 0, .int 0, .ref mq17, .ref mq18, .int (-1), .int 0, .ref mq19, .int 0, .long 0, .ref mq20, .int 0, .int 0, .ref mq21, .ref mq22, .ref mq23, .int 0]))] H) (hD : va_D (fun q : Nat => s.heap.size ≤ q) [(xh0, .inr (10, [.ref xq1, .ref xq4, .ref xq6, .ref xq9, .ref xq14, .ref xq19, .ref xq20, .ref xq25, .ref xq30, .ref xq33, .ref xq39, .ref xq45, .ref xq47, .int 0, .int (-1), .int 0, .int 0])), (xq14, .inr (1, [.ref xq16, .ref xq17, .ref xq18, .int 0, .int 0])), (mh0, .inr (11, [.int 0, .ref mq1, .int 0, .int 0, .int 0, .int 0, .ref mq2, .ref mq3, .ref mq4, .ref mq5, .ref mq6, .ref mq7, .ref mq8, .int 0, .int 0, .ref mq9, .ref mq10, .ref mq11, .ref mq12, .ref mq13, .int 0, .int 0, .ref mq14, .ref mq15, .ref mq16, .int 0, .int 0, .ref mq17, .ref mq18, .int (-1), .int 0, .ref mq19, .int 0, .long 0, .ref mq20, .int 0, .int 0, .ref mq21, .ref mq22, .ref mq23, .int 0]))]) (hS : va_S (fun q : Nat => s.heap.size ≤ q) s.heap H locs) {ls : Array Slot} (hl : lv_has ls 7 [(0, .ref b), (1, .ref xh0), (2, .ref mh0), (3, .ref o0), (4, .int 0)]) : W p l e room_1 s m #[Value.ref b] below meth c H locs 62 13545 (lw_Z below #[Value.ref b] s) (F0 m 421 ls []) := by
  obtain ⟨hx, hb, hr, hml, hown, hts0, hX, hbl, hlocks, hgv⟩ := id C0
  have hts : ∀ w ∈ wA, w.before #[Value.ref b] s = true := fun w h => hts0 w (List.mem_filter.mp h).1
  have hown : s.vm.findClass RL = some m.cls := hown
  have hA : ∀ q : Nat, s.heap.size ≤ q → (fun q : Nat => s.heap.size ≤ q) q := fun _ h => h
  have hbA : ¬ (fun q : Nat => s.heap.size ≤ q) b := Nat.not_le.mpr hbl
  refine lv_aload_n hx hb dL_law_421 rfl (lv_at hl 1 rfl) ?_
  refine lv_aload_n hx hb dL_law_422 rfl (lv_at hl 0 rfl) ?_
  refine lv_iload hx hb dL_law_423 (lv_at hl 4 rfl) ?_
  refine lv_iconst (v := 1) hx hb dL_law_425 (by decide) ?_
  refine lv_iadd hx hb dL_law_426 ?_
  refine lv_topi (fun v_1 ev_1 => ?_)
  obtain rfl : v_1 = 1 := ev_1.trans (by decide)
  refine va_sld hx hb hX hbl hbA hS (by unfold vp_in; decide) dL_law_427 ?_
  refine lv_topi (fun v_2 ev_2 => ?_)
  obtain rfl : v_2 = xs 1 := ev_2
  refine lv_aload_n hx hb dL_law_428 rfl (lv_at hl 0 rfl) ?_
  refine lv_iload hx hb dL_law_429 (lv_at hl 4 rfl) ?_
  refine lv_iconst (v := 2) hx hb dL_law_431 (by decide) ?_
  refine lv_iadd hx hb dL_law_432 ?_
  refine lv_topi (fun v_3 ev_3 => ?_)
  obtain rfl : v_3 = 2 := ev_3.trans (by decide)
  refine va_sld hx hb hX hbl hbA hS (by unfold vp_in; decide) dL_law_433 ?_
  refine lv_topi (fun v_4 ev_4 => ?_)
  obtain rfl : v_4 = xs 2 := ev_4
  refine lv_aload_n hx hb dL_law_434 rfl (lv_at hl 3 rfl) ?_
  have hPc := hP.sub (ws' := [(xh0, .inr (10, [.ref xq1, .ref xq4, .ref xq6, .ref xq9, .ref xq14, .ref xq19, .ref xq20, .ref xq25, .ref xq30, .ref xq33, .ref xq39, .ref xq45, .ref xq47, .int 0, .int (-1), .int 0, .int 0])), (xq14, .inr (1, [.ref xq16, .ref xq17, .ref xq18, .int 0, .int 0]))]) [0, 1] rfl
  have hDc := hD.sub (ws' := [(xh0, .inr (10, [.ref xq1, .ref xq4, .ref xq6, .ref xq9, .ref xq14, .ref xq19, .ref xq20, .ref xq25, .ref xq30, .ref xq33, .ref xq39, .ref xq45, .ref xq47, .int 0, .int (-1), .int 0, .int 0])), (xq14, .inr (1, [.ref xq16, .ref xq17, .ref xq18, .int 0, .int 0]))]) [0, 1] (by decide) rfl
  have hFc := zfr hS hA
  refine va_calli (vx_runSW (As := [.ref xh0, .int (xs 1), .int (xs 2), .ref o0]) (rest := []) ⟨hx, hb, hml, hown, hts⟩ (c_L_bride l hl0 dC dI cI cJ xh0 xq1 xq4 xq6 xq9 xq14 xq19 xq20 xq25 xq30 xq33 xq39 xq45 xq47 xq16 xq17 xq18 o0 H.size (xs 1) (xs 2)) (vx_cwSW 4 hts (zgSW qw1051 qw1052 qw97 qw1053) rfl rfl rfl (hd_L_bride).2 ⟨Nat.le_of_ble_eq_true rfl, Nat.le_of_ble_eq_true rfl⟩) (zPGS hPc hK hDc (zG_call hG hS hFc)) rfl rfl hl.1 rfl (lv_room (Nat.le_of_ble_eq_true rfl)) dL_law_435 ⟨Nat.le_of_ble_eq_true rfl, Nat.le_of_ble_eq_true rfl⟩) hS (fun q _ h => hFc q h) hFc (fun r_5 u t H locs ht hvm hw hB hz1 hk1 hS => ?_)
  refine W.widen (k := 63) (n := 13551) (Nat.le_of_ble_eq_true rfl) (Nat.le_of_ble_eq_true rfl) ?_
  have hP := zkeep hP hk1
  have hw : r_5 = 1 := hw
  subst hw
  refine lv_istore (lv' := [(5, .int 1), (0, .ref b), (1, .ref xh0), (2, .ref mh0), (3, .ref o0), (4, .int 0)]) hx hb dL_law_438 hl (by decide) rfl (fun ls hl => ?_)
  refine lv_aload_n hx hb dL_law_440 rfl (lv_at hl 3 rfl) ?_
  refine lv_aload_n hx hb dL_law_441 rfl (lv_at hl 1 rfl) ?_
  refine lv_iload hx hb dL_law_442 (lv_at hl 5 rfl) ?_
  refine lv_iconst (v := 1) hx hb dL_law_444 (by decide) ?_
  refine lv_iadd hx hb dL_law_445 ?_
  refine lv_topi (fun v_6 ev_6 => ?_)
  obtain rfl : v_6 = 1 := ev_6.trans (by decide)
  refine va_sld hx hb hX hbl hbA hS (by unfold vp_in; decide) dL_law_446 ?_
  refine lv_topi (fun v_7 ev_7 => ?_)
  obtain rfl : v_7 = xs 1 := ev_7
  refine lv_aload_n hx hb dL_law_447 rfl (lv_at hl 1 rfl) ?_
  refine lv_iload hx hb dL_law_448 (lv_at hl 5 rfl) ?_
  refine lv_iconst (v := 2) hx hb dL_law_450 (by decide) ?_
  refine lv_iadd hx hb dL_law_451 ?_
  refine lv_topi (fun v_8 ev_8 => ?_)
  obtain rfl : v_8 = 2 := ev_8.trans (by decide)
  refine va_sld hx hb hX hbl hbA hS (by unfold vp_in; decide) dL_law_452 ?_
  refine lv_topi (fun v_9 ev_9 => ?_)
  obtain rfl : v_9 = xs 2 := ev_9
  have hPc := hP.sub (ws' := [(mh0, .inr (11, [.int 0, .ref mq1, .int 0, .int 0, .int 0, .int 0, .ref mq2, .ref mq3, .ref mq4, .ref mq5, .ref mq6, .ref mq7, .ref mq8, .int 0, .int 0, .ref mq9, .ref mq10, .ref mq11, .ref mq12, .ref mq13, .int 0, .int 0, .ref mq14, .ref mq15, .ref mq16, .int 0, .int 0, .ref mq17, .ref mq18, .int (-1), .int 0, .ref mq19, .int 0, .long 0, .ref mq20, .int 0, .int 0, .ref mq21, .ref mq22, .ref mq23, .int 0]))]) [2] rfl
  have hDc := hD.sub (ws' := [(mh0, .inr (11, [.int 0, .ref mq1, .int 0, .int 0, .int 0, .int 0, .ref mq2, .ref mq3, .ref mq4, .ref mq5, .ref mq6, .ref mq7, .ref mq8, .int 0, .int 0, .ref mq9, .ref mq10, .ref mq11, .ref mq12, .ref mq13, .int 0, .int 0, .ref mq14, .ref mq15, .ref mq16, .int 0, .int 0, .ref mq17, .ref mq18, .int (-1), .int 0, .ref mq19, .int 0, .long 0, .ref mq20, .int 0, .int 0, .ref mq21, .ref mq22, .ref mq23, .int 0]))]) [2] (by decide) rfl
  have hFc := va_free (wc := [(mh0, .inr (11, [.int 0, .ref mq1, .int 0, .int 0, .int 0, .int 0, .ref mq2, .ref mq3, .ref mq4, .ref mq5, .ref mq6, .ref mq7, .ref mq8, .int 0, .int 0, .ref mq9, .ref mq10, .ref mq11, .ref mq12, .ref mq13, .int 0, .int 0, .ref mq14, .ref mq15, .ref mq16, .int 0, .int 0, .ref mq17, .ref mq18, .int (-1), .int 0, .ref mq19, .int 0, .long 0, .ref mq20, .int 0, .int 0, .ref mq21, .ref mq22, .ref mq23, .int 0]))]) hD hS hA [2] rfl
  refine va_calli (va_runV (As := [.int (xs 1), .int (xs 2)]) (rest := []) ⟨hx, hb, hml, hown, hts⟩ (c_X11_bride l dC dI cI cJ mh0 mq1 mq2 mq3 mq4 mq5 mq6 mq7 mq8 mq9 mq10 mq11 mq12 mq13 mq14 mq15 mq16 mq17 mq18 mq19 mq20 mq21 mq22 mq23 H.size (xs 1) (xs 2)) (cwV 2 hts (zgV qw1402 qw1403 qw1404 qw108 qw1405) rfl rfl rfl hd_X11_bride ⟨Nat.le_of_ble_eq_true rfl, Nat.le_of_ble_eq_true rfl⟩) (zPV hPc hK hDc (va_recv hK hP (ci := 11) (q0 := 2) rfl rfl)) rfl rfl hl.1 rfl (lv_room (Nat.le_of_ble_eq_true rfl)) dL_law_453 ⟨Nat.le_of_ble_eq_true rfl, Nat.le_of_ble_eq_true rfl⟩) hS (fun q _ h => hFc q h) hFc (fun r_10 u t H locs ht hvm hw hB hz1 hk1 hS => ?_)
  obtain ⟨hP1, hD1⟩ := hB
  rw [ht] at hP1
  obtain ⟨hP, hD⟩ := va_join (wr := [(xh0, .inr (10, [.ref xq1, .ref xq4, .ref xq6, .ref xq9, .ref xq14, .ref xq19, .ref xq20, .ref xq25, .ref xq30, .ref xq33, .ref xq39, .ref xq45, .ref xq47, .int 0, .int (-1), .int 0, .int 0])), (xq14, .inr (1, [.ref xq16, .ref xq17, .ref xq18, .int 0, .int 0]))]) (w1 := [(mh0, .inr (11, [.int 1, .ref mq1, .int 0, .int 0, .int 0, .int 0, .ref mq2, .ref mq3, .ref mq4, .ref mq5, .ref mq6, .ref mq7, .ref mq8, .int 0, .int 0, .ref mq9, .ref mq10, .ref mq11, .ref mq12, .ref mq13, .int 0, .int 0, .ref mq14, .ref mq15, .ref mq16, .int 0, .int 0, .ref mq17, .ref mq18, .int (-1), .int 0, .ref mq19, .int 0, .long 0, .ref mq20, .int 0, .int 0, .ref mq21, .ref mq22, .ref mq23, .int 0]))]) hP hD [2] [0, 1] rfl rfl (by decide) (by decide) hk1 hFc hP1 hD1
  have hP : va_P (dC, dI) vwCl [(xh0, .inr (10, [.ref xq1, .ref xq4, .ref xq6, .ref xq9, .ref xq14, .ref xq19, .ref xq20, .ref xq25, .ref xq30, .ref xq33, .ref xq39, .ref xq45, .ref xq47, .int 0, .int (-1), .int 0, .int 0])), (xq14, .inr (1, [.ref xq16, .ref xq17, .ref xq18, .int 0, .int 0])), (mh0, .inr (11, [.int 1, .ref mq1, .int 0, .int 0, .int 0, .int 0, .ref mq2, .ref mq3, .ref mq4, .ref mq5, .ref mq6, .ref mq7, .ref mq8, .int 0, .int 0, .ref mq9, .ref mq10, .ref mq11, .ref mq12, .ref mq13, .int 0, .int 0, .ref mq14, .ref mq15, .ref mq16, .int 0, .int 0, .ref mq17, .ref mq18, .int (-1), .int 0, .ref mq19, .int 0, .long 0, .ref mq20, .int 0, .int 0, .ref mq21, .ref mq22, .ref mq23, .int 0]))] H := hP
  have hD : va_D (fun q : Nat => s.heap.size ≤ q) [(xh0, .inr (10, [.ref xq1, .ref xq4, .ref xq6, .ref xq9, .ref xq14, .ref xq19, .ref xq20, .ref xq25, .ref xq30, .ref xq33, .ref xq39, .ref xq45, .ref xq47, .int 0, .int (-1), .int 0, .int 0])), (xq14, .inr (1, [.ref xq16, .ref xq17, .ref xq18, .int 0, .int 0])), (mh0, .inr (11, [.int 1, .ref mq1, .int 0, .int 0, .int 0, .int 0, .ref mq2, .ref mq3, .ref mq4, .ref mq5, .ref mq6, .ref mq7, .ref mq8, .int 0, .int 0, .ref mq9, .ref mq10, .ref mq11, .ref mq12, .ref mq13, .int 0, .int 0, .ref mq14, .ref mq15, .ref mq16, .int 0, .int 0, .ref mq17, .ref mq18, .int (-1), .int 0, .ref mq19, .int 0, .long 0, .ref mq20, .int 0, .int 0, .ref mq21, .ref mq22, .ref mq23, .int 0]))] := hD
  have hw : r_10 = 0 := hw
  subst hw
  refine lv_istore (lv' := [(6, .int 0), (5, .int 1), (0, .ref b), (1, .ref xh0), (2, .ref mh0), (3, .ref o0), (4, .int 0)]) hx hb dL_law_456 hl (by decide) rfl (fun ls hl => ?_)
  refine lv_aload_n hx hb dL_law_458 rfl (lv_at hl 4 rfl) ?_
  have hPc := hP.sub (ws' := [(mh0, .inr (11, [.int 1, .ref mq1, .int 0, .int 0, .int 0, .int 0, .ref mq2, .ref mq3, .ref mq4, .ref mq5, .ref mq6, .ref mq7, .ref mq8, .int 0, .int 0, .ref mq9, .ref mq10, .ref mq11, .ref mq12, .ref mq13, .int 0, .int 0, .ref mq14, .ref mq15, .ref mq16, .int 0, .int 0, .ref mq17, .ref mq18, .int (-1), .int 0, .ref mq19, .int 0, .long 0, .ref mq20, .int 0, .int 0, .ref mq21, .ref mq22, .ref mq23, .int 0]))]) [2] rfl
  have hDc := hD.sub (ws' := [(mh0, .inr (11, [.int 1, .ref mq1, .int 0, .int 0, .int 0, .int 0, .ref mq2, .ref mq3, .ref mq4, .ref mq5, .ref mq6, .ref mq7, .ref mq8, .int 0, .int 0, .ref mq9, .ref mq10, .ref mq11, .ref mq12, .ref mq13, .int 0, .int 0, .ref mq14, .ref mq15, .ref mq16, .int 0, .int 0, .ref mq17, .ref mq18, .int (-1), .int 0, .ref mq19, .int 0, .long 0, .ref mq20, .int 0, .int 0, .ref mq21, .ref mq22, .ref mq23, .int 0]))]) [2] (by decide) rfl
  have hFc := zfr hS hA
  refine va_calli (va_runV (As := []) (rest := []) ⟨hx, hb, hml, hown, hts⟩ (c_X11_thrown_1 l dC dI cI cJ mh0 mq1 mq2 mq3 mq4 mq5 mq6 mq7 mq8 mq9 mq10 mq11 mq12 mq13 mq14 mq15 mq16 mq17 mq18 mq19 mq20 mq21 mq22 mq23 H.size) (cwV 0 hts (zgV qw1251 qw1252 qw1253 qw108 qw1254) rfl rfl rfl hd_X11_thrown ⟨Nat.le_of_ble_eq_true rfl, Nat.le_of_ble_eq_true rfl⟩) (zPV hPc hK hDc (va_recv hK hP (ci := 11) (q0 := 2) rfl rfl)) rfl rfl hl.1 rfl (lv_room (Nat.le_of_ble_eq_true rfl)) dL_law_459 ⟨Nat.le_of_ble_eq_true rfl, Nat.le_of_ble_eq_true rfl⟩) hS (fun q _ h => hFc q h) hFc (fun r_11 u t H locs ht hvm hw hB hz1 hk1 hS => ?_)
  have hP := zkeep hP hk1
  have hw : r_11 = 1 := hw
  subst hw
  refine lv_iload hx hb dL_law_462 (lv_at hl 1 rfl) ?_
  refine lv_icmp_eq (tgt := 469) hx hb dL_law_464 (by decide) (fun _ => ?_) (fun c => absurd (by decide) c)
  refine lv_iload hx hb dL_law_469 (lv_at hl 1 rfl) ?_
  refine lv_if_ne (tgt := 486) hx hb dL_law_471 (by decide) (fun _ => ?_) (fun c => absurd c (by decide))
  refine lv_goto (tgt := 1825) hx hb dL_law_486 (by decide) ?_
  refine W.widen (k := 63) (n := 13551) (Nat.le_of_ble_eq_true rfl) (Nat.le_of_ble_eq_true rfl) ?_
  exact law_end C0 hS (lv_sub hl [2, 6] rfl)
set_option maxHeartbeats 4000000 in
set_option maxRecDepth 100000 in
theorem law_case_6 {p : Program} {l : Launch} {e : Env} {s : State} {m : MethodId} {below : List Frame} {meth : Method} {c : Code} {b : Nat} {xs : Nat → Int32} {dC : Nat → ClassId} {dI : Nat → Nat → Nat} {cI cJ : ClassId} {xh0 mh0 o0 xq1 xq4 xq6 xq9 xq14 xq19 xq20 xq25 xq30 xq33 xq39 xq45 xq47 xq16 xq17 xq18 mq1 mq2 mq3 mq4 mq5 mq6 mq7 mq8 mq9 mq10 mq11 mq12 mq13 mq14 mq15 mq16 mq17 mq18 mq19 mq20 mq21 mq22 mq23 g0 : Nat} (hl0 : l.stackTraces = false) (C0 : lw_At p s m meth c b 7 xs) (hK : va_K (dC, dI) vwCl [(cI, .int), (cJ, .long)] s) (hF : zF g0 (fun q : Nat => s.heap.size ≤ q) s) (hG : zG (fun q : Nat => s.heap.size ≤ q) s) {H : Heap} {locs : List Loc} (hP : va_P (dC, dI) vwCl [(xh0, .inr (10, [.ref xq1, .ref xq4, .ref xq6, .ref xq9, .ref xq14, .ref xq19, .ref xq20, .ref xq25, .ref xq30, .ref xq33, .ref xq39, .ref xq45, .ref xq47, .int 0, .int (-1), .int 0, .int 0])), (xq14, .inr (1, [.ref xq16, .ref xq17, .ref xq18, .int 0, .int 0])), (mh0, .inr (11, [.int 0, .ref mq1, .int 0, .int 0, .int 0, .int 0, .ref mq2, .ref mq3, .ref mq4, .ref mq5, .ref mq6, .ref mq7, .ref mq8, .int 0, .int 0, .ref mq9, .ref mq10, .ref mq11, .ref mq12, .ref mq13, .int 0, .int 0, .ref mq14, .ref mq15, .ref mq16, .int 0, .int 0, .ref mq17, .ref mq18, .int (-1), .int 0, .ref mq19, .int 0, .long 0, .ref mq20, .int 0, .int 0, .ref mq21, .ref mq22, .ref mq23, .int 0]))] H) (hD : va_D (fun q : Nat => s.heap.size ≤ q) [(xh0, .inr (10, [.ref xq1, .ref xq4, .ref xq6, .ref xq9, .ref xq14, .ref xq19, .ref xq20, .ref xq25, .ref xq30, .ref xq33, .ref xq39, .ref xq45, .ref xq47, .int 0, .int (-1), .int 0, .int 0])), (xq14, .inr (1, [.ref xq16, .ref xq17, .ref xq18, .int 0, .int 0])), (mh0, .inr (11, [.int 0, .ref mq1, .int 0, .int 0, .int 0, .int 0, .ref mq2, .ref mq3, .ref mq4, .ref mq5, .ref mq6, .ref mq7, .ref mq8, .int 0, .int 0, .ref mq9, .ref mq10, .ref mq11, .ref mq12, .ref mq13, .int 0, .int 0, .ref mq14, .ref mq15, .ref mq16, .int 0, .int 0, .ref mq17, .ref mq18, .int (-1), .int 0, .ref mq19, .int 0, .long 0, .ref mq20, .int 0, .int 0, .ref mq21, .ref mq22, .ref mq23, .int 0]))]) (hS : va_S (fun q : Nat => s.heap.size ≤ q) s.heap H locs) {ls : Array Slot} (hl : lv_has ls 7 [(0, .ref b), (1, .ref xh0), (2, .ref mh0), (3, .ref o0), (4, .int 0)]) : W p l e room_1 s m #[Value.ref b] below meth c H locs 62 13545 (lw_Z below #[Value.ref b] s) (F0 m 489 ls []) := by
  obtain ⟨hx, hb, hr, hml, hown, hts0, hX, hbl, hlocks, hgv⟩ := id C0
  have hts : ∀ w ∈ wA, w.before #[Value.ref b] s = true := fun w h => hts0 w (List.mem_filter.mp h).1
  have hown : s.vm.findClass RL = some m.cls := hown
  have hA : ∀ q : Nat, s.heap.size ≤ q → (fun q : Nat => s.heap.size ≤ q) q := fun _ h => h
  have hbA : ¬ (fun q : Nat => s.heap.size ≤ q) b := Nat.not_le.mpr hbl
  refine lv_aload_n hx hb dL_law_489 rfl (lv_at hl 1 rfl) ?_
  refine lv_aload_n hx hb dL_law_490 rfl (lv_at hl 0 rfl) ?_
  refine lv_iload hx hb dL_law_491 (lv_at hl 4 rfl) ?_
  refine lv_iconst (v := 1) hx hb dL_law_493 (by decide) ?_
  refine lv_iadd hx hb dL_law_494 ?_
  refine lv_topi (fun v_1 ev_1 => ?_)
  obtain rfl : v_1 = 1 := ev_1.trans (by decide)
  refine va_sld hx hb hX hbl hbA hS (by unfold vp_in; decide) dL_law_495 ?_
  refine lv_topi (fun v_2 ev_2 => ?_)
  obtain rfl : v_2 = xs 1 := ev_2
  refine lv_aload_n hx hb dL_law_496 rfl (lv_at hl 0 rfl) ?_
  refine lv_iload hx hb dL_law_497 (lv_at hl 4 rfl) ?_
  refine lv_iconst (v := 2) hx hb dL_law_499 (by decide) ?_
  refine lv_iadd hx hb dL_law_500 ?_
  refine lv_topi (fun v_3 ev_3 => ?_)
  obtain rfl : v_3 = 2 := ev_3.trans (by decide)
  refine va_sld hx hb hX hbl hbA hS (by unfold vp_in; decide) dL_law_501 ?_
  refine lv_topi (fun v_4 ev_4 => ?_)
  obtain rfl : v_4 = xs 2 := ev_4
  have hPc := hP.sub (ws' := [(xh0, .inr (10, [.ref xq1, .ref xq4, .ref xq6, .ref xq9, .ref xq14, .ref xq19, .ref xq20, .ref xq25, .ref xq30, .ref xq33, .ref xq39, .ref xq45, .ref xq47, .int 0, .int (-1), .int 0, .int 0])), (xq14, .inr (1, [.ref xq16, .ref xq17, .ref xq18, .int 0, .int 0]))]) [0, 1] rfl
  have hDc := hD.sub (ws' := [(xh0, .inr (10, [.ref xq1, .ref xq4, .ref xq6, .ref xq9, .ref xq14, .ref xq19, .ref xq20, .ref xq25, .ref xq30, .ref xq33, .ref xq39, .ref xq45, .ref xq47, .int 0, .int (-1), .int 0, .int 0])), (xq14, .inr (1, [.ref xq16, .ref xq17, .ref xq18, .int 0, .int 0]))]) [0, 1] (by decide) rfl
  have hFc := zfr hS hA
  refine va_calli (va_runV (As := [.int (xs 1), .int (xs 2)]) (rest := []) ⟨hx, hb, hml, hown, hts⟩ (c_X10_painter l dC dI cI cJ xh0 xq1 xq4 xq6 xq9 xq14 xq19 xq20 xq25 xq30 xq33 xq39 xq45 xq47 xq16 xq17 xq18 H.size (xs 1) (xs 2)) (cwV 2 hts (zgV qw596 qw597 qw598 qw98 qw599) rfl rfl rfl hd_X10_painter ⟨Nat.le_of_ble_eq_true rfl, Nat.le_of_ble_eq_true rfl⟩) (zPV hPc hK hDc (va_recv hK hP (ci := 10) (q0 := 0) rfl rfl)) rfl rfl hl.1 rfl (lv_room (Nat.le_of_ble_eq_true rfl)) dL_law_502 ⟨Nat.le_of_ble_eq_true rfl, Nat.le_of_ble_eq_true rfl⟩) hS (fun q _ h => hFc q h) hFc (fun r_5 u t H locs ht hvm hw hB hz1 hk1 hS => ?_)
  have hP := zkeep hP hk1
  have hw : r_5 = (-1) := hw
  subst hw
  refine lv_aload_n hx hb dL_law_505 rfl (lv_at hl 2 rfl) ?_
  refine lv_aload_n hx hb dL_law_506 rfl (lv_at hl 0 rfl) ?_
  refine lv_iload hx hb dL_law_507 (lv_at hl 4 rfl) ?_
  refine lv_iconst (v := 1) hx hb dL_law_509 (by decide) ?_
  refine lv_iadd hx hb dL_law_510 ?_
  refine lv_topi (fun v_6 ev_6 => ?_)
  obtain rfl : v_6 = 1 := ev_6.trans (by decide)
  refine va_sld hx hb hX hbl hbA hS (by unfold vp_in; decide) dL_law_511 ?_
  refine lv_topi (fun v_7 ev_7 => ?_)
  obtain rfl : v_7 = xs 1 := ev_7
  refine lv_aload_n hx hb dL_law_512 rfl (lv_at hl 0 rfl) ?_
  refine lv_iload hx hb dL_law_513 (lv_at hl 4 rfl) ?_
  refine lv_iconst (v := 2) hx hb dL_law_515 (by decide) ?_
  refine lv_iadd hx hb dL_law_516 ?_
  refine lv_topi (fun v_8 ev_8 => ?_)
  obtain rfl : v_8 = 2 := ev_8.trans (by decide)
  refine va_sld hx hb hX hbl hbA hS (by unfold vp_in; decide) dL_law_517 ?_
  refine lv_topi (fun v_9 ev_9 => ?_)
  obtain rfl : v_9 = xs 2 := ev_9
  have hPc := hP.sub (ws' := [(mh0, .inr (11, [.int 0, .ref mq1, .int 0, .int 0, .int 0, .int 0, .ref mq2, .ref mq3, .ref mq4, .ref mq5, .ref mq6, .ref mq7, .ref mq8, .int 0, .int 0, .ref mq9, .ref mq10, .ref mq11, .ref mq12, .ref mq13, .int 0, .int 0, .ref mq14, .ref mq15, .ref mq16, .int 0, .int 0, .ref mq17, .ref mq18, .int (-1), .int 0, .ref mq19, .int 0, .long 0, .ref mq20, .int 0, .int 0, .ref mq21, .ref mq22, .ref mq23, .int 0]))]) [2] rfl
  have hDc := hD.sub (ws' := [(mh0, .inr (11, [.int 0, .ref mq1, .int 0, .int 0, .int 0, .int 0, .ref mq2, .ref mq3, .ref mq4, .ref mq5, .ref mq6, .ref mq7, .ref mq8, .int 0, .int 0, .ref mq9, .ref mq10, .ref mq11, .ref mq12, .ref mq13, .int 0, .int 0, .ref mq14, .ref mq15, .ref mq16, .int 0, .int 0, .ref mq17, .ref mq18, .int (-1), .int 0, .ref mq19, .int 0, .long 0, .ref mq20, .int 0, .int 0, .ref mq21, .ref mq22, .ref mq23, .int 0]))]) [2] (by decide) rfl
  have hFc := zfr hS hA
  refine va_calli (va_runV (As := [.int (xs 1), .int (xs 2)]) (rest := [.int (-1)]) ⟨hx, hb, hml, hown, hts⟩ (c_X11_painter l dC dI cI cJ mh0 mq1 mq2 mq3 mq4 mq5 mq6 mq7 mq8 mq9 mq10 mq11 mq12 mq13 mq14 mq15 mq16 mq17 mq18 mq19 mq20 mq21 mq22 mq23 H.size (xs 1) (xs 2)) (cwV 2 hts (zgV qw1410 qw1411 qw1412 qw108 qw1413) rfl rfl rfl hd_X11_painter ⟨Nat.le_of_ble_eq_true rfl, Nat.le_of_ble_eq_true rfl⟩) (zPV hPc hK hDc (va_recv hK hP (ci := 11) (q0 := 2) rfl rfl)) rfl rfl hl.1 rfl (lv_room (Nat.le_of_ble_eq_true rfl)) dL_law_518 ⟨Nat.le_of_ble_eq_true rfl, Nat.le_of_ble_eq_true rfl⟩) hS (fun q _ h => hFc q h) hFc (fun r_10 u t H locs ht hvm hw hB hz1 hk1 hS => ?_)
  have hP := zkeep hP hk1
  have hw : r_10 = (-1) := hw
  subst hw
  refine lv_icmp_eq (tgt := 1825) hx hb dL_law_521 (by decide) (fun _ => ?_) (fun c => absurd (by decide) c)
  exact law_end C0 hS (lv_sub hl [0, 4] rfl)
set_option maxHeartbeats 4000000 in
set_option maxRecDepth 100000 in
theorem law_case_7 {p : Program} {l : Launch} {e : Env} {s : State} {m : MethodId} {below : List Frame} {meth : Method} {c : Code} {b : Nat} {xs : Nat → Int32} {dC : Nat → ClassId} {dI : Nat → Nat → Nat} {cI cJ : ClassId} {xh0 mh0 o0 xq1 xq4 xq6 xq9 xq14 xq19 xq20 xq25 xq30 xq33 xq39 xq45 xq47 xq35 xq36 xq37 xq38 mq1 mq2 mq3 mq4 mq5 mq6 mq7 mq8 mq9 mq10 mq11 mq12 mq13 mq14 mq15 mq16 mq17 mq18 mq19 mq20 mq21 mq22 mq23 g0 : Nat} (hl0 : l.stackTraces = false) (C0 : lw_At p s m meth c b 7 xs) (hK : va_K (dC, dI) vwCl [(cI, .int), (cJ, .long)] s) (hF : zF g0 (fun q : Nat => s.heap.size ≤ q) s) (hG : zG (fun q : Nat => s.heap.size ≤ q) s) {H : Heap} {locs : List Loc} (hP : va_P (dC, dI) vwCl [(xh0, .inr (10, [.ref xq1, .ref xq4, .ref xq6, .ref xq9, .ref xq14, .ref xq19, .ref xq20, .ref xq25, .ref xq30, .ref xq33, .ref xq39, .ref xq45, .ref xq47, .int 0, .int (-1), .int 0, .int 0])), (xq33, .inr (8, [.ref xq35, .ref xq36, .ref xq14, .ref xq20, .ref xq37, .ref xq38, .null])), (mh0, .inr (11, [.int 0, .ref mq1, .int 0, .int 0, .int 0, .int 0, .ref mq2, .ref mq3, .ref mq4, .ref mq5, .ref mq6, .ref mq7, .ref mq8, .int 0, .int 0, .ref mq9, .ref mq10, .ref mq11, .ref mq12, .ref mq13, .int 0, .int 0, .ref mq14, .ref mq15, .ref mq16, .int 0, .int 0, .ref mq17, .ref mq18, .int (-1), .int 0, .ref mq19, .int 0, .long 0, .ref mq20, .int 0, .int 0, .ref mq21, .ref mq22, .ref mq23, .int 0]))] H) (hD : va_D (fun q : Nat => s.heap.size ≤ q) [(xh0, .inr (10, [.ref xq1, .ref xq4, .ref xq6, .ref xq9, .ref xq14, .ref xq19, .ref xq20, .ref xq25, .ref xq30, .ref xq33, .ref xq39, .ref xq45, .ref xq47, .int 0, .int (-1), .int 0, .int 0])), (xq33, .inr (8, [.ref xq35, .ref xq36, .ref xq14, .ref xq20, .ref xq37, .ref xq38, .null])), (mh0, .inr (11, [.int 0, .ref mq1, .int 0, .int 0, .int 0, .int 0, .ref mq2, .ref mq3, .ref mq4, .ref mq5, .ref mq6, .ref mq7, .ref mq8, .int 0, .int 0, .ref mq9, .ref mq10, .ref mq11, .ref mq12, .ref mq13, .int 0, .int 0, .ref mq14, .ref mq15, .ref mq16, .int 0, .int 0, .ref mq17, .ref mq18, .int (-1), .int 0, .ref mq19, .int 0, .long 0, .ref mq20, .int 0, .int 0, .ref mq21, .ref mq22, .ref mq23, .int 0]))]) (hS : va_S (fun q : Nat => s.heap.size ≤ q) s.heap H locs) {ls : Array Slot} (hl : lv_has ls 7 [(0, .ref b), (1, .ref xh0), (2, .ref mh0), (3, .ref o0), (4, .int 0)]) : W p l e room_1 s m #[Value.ref b] below meth c H locs 62 13545 (lw_Z below #[Value.ref b] s) (F0 m 526 ls []) := by
  obtain ⟨hx, hb, hr, hml, hown, hts0, hX, hbl, hlocks, hgv⟩ := id C0
  have hts : ∀ w ∈ wA, w.before #[Value.ref b] s = true := fun w h => hts0 w (List.mem_filter.mp h).1
  have hown : s.vm.findClass RL = some m.cls := hown
  have hA : ∀ q : Nat, s.heap.size ≤ q → (fun q : Nat => s.heap.size ≤ q) q := fun _ h => h
  have hbA : ¬ (fun q : Nat => s.heap.size ≤ q) b := Nat.not_le.mpr hbl
  refine lv_aload_n hx hb dL_law_526 rfl (lv_at hl 1 rfl) ?_
  refine lv_aload_n hx hb dL_law_527 rfl (lv_at hl 0 rfl) ?_
  refine lv_iload hx hb dL_law_528 (lv_at hl 4 rfl) ?_
  refine lv_iconst (v := 1) hx hb dL_law_530 (by decide) ?_
  refine lv_iadd hx hb dL_law_531 ?_
  refine lv_topi (fun v_1 ev_1 => ?_)
  obtain rfl : v_1 = 1 := ev_1.trans (by decide)
  refine va_sld hx hb hX hbl hbA hS (by unfold vp_in; decide) dL_law_532 ?_
  refine lv_topi (fun v_2 ev_2 => ?_)
  obtain rfl : v_2 = xs 1 := ev_2
  have hPc := hP.sub (ws' := [(xh0, .inr (10, [.ref xq1, .ref xq4, .ref xq6, .ref xq9, .ref xq14, .ref xq19, .ref xq20, .ref xq25, .ref xq30, .ref xq33, .ref xq39, .ref xq45, .ref xq47, .int 0, .int (-1), .int 0, .int 0])), (xq33, .inr (8, [.ref xq35, .ref xq36, .ref xq14, .ref xq20, .ref xq37, .ref xq38, .null]))]) [0, 1] rfl
  have hDc := hD.sub (ws' := [(xh0, .inr (10, [.ref xq1, .ref xq4, .ref xq6, .ref xq9, .ref xq14, .ref xq19, .ref xq20, .ref xq25, .ref xq30, .ref xq33, .ref xq39, .ref xq45, .ref xq47, .int 0, .int (-1), .int 0, .int 0])), (xq33, .inr (8, [.ref xq35, .ref xq36, .ref xq14, .ref xq20, .ref xq37, .ref xq38, .null]))]) [0, 1] (by decide) rfl
  have hFc := va_free (wc := [(xh0, .inr (10, [.ref xq1, .ref xq4, .ref xq6, .ref xq9, .ref xq14, .ref xq19, .ref xq20, .ref xq25, .ref xq30, .ref xq33, .ref xq39, .ref xq45, .ref xq47, .int 0, .int (-1), .int 0, .int 0])), (xq33, .inr (8, [.ref xq35, .ref xq36, .ref xq14, .ref xq20, .ref xq37, .ref xq38, .null]))]) hD hS hA [0, 1] rfl
  refine va_calli (va_runV (As := [.int (xs 1)]) (rest := []) ⟨hx, hb, hml, hown, hts⟩ (c_X10_law l dC dI cI cJ xh0 xq1 xq4 xq6 xq9 xq14 xq19 xq20 xq25 xq30 xq33 xq39 xq45 xq47 xq35 xq36 xq37 xq38 H.size (xs 1)) (cwV 1 hts (zgV qw617 qw618 qw619 qw98 qw620) rfl rfl rfl hd_X10_law ⟨Nat.le_of_ble_eq_true rfl, Nat.le_of_ble_eq_true rfl⟩) (zPV hPc hK hDc (va_recv hK hP (ci := 10) (q0 := 0) rfl rfl)) rfl rfl hl.1 rfl (lv_room (Nat.le_of_ble_eq_true rfl)) dL_law_533 ⟨Nat.le_of_ble_eq_true rfl, Nat.le_of_ble_eq_true rfl⟩) hS (fun q _ h => hFc q h) hFc (fun r_3 u t H locs ht hvm hw hB hz1 hk1 hS => ?_)
  obtain ⟨hP, hD⟩ := va_join (wr := [(mh0, .inr (11, [.int 0, .ref mq1, .int 0, .int 0, .int 0, .int 0, .ref mq2, .ref mq3, .ref mq4, .ref mq5, .ref mq6, .ref mq7, .ref mq8, .int 0, .int 0, .ref mq9, .ref mq10, .ref mq11, .ref mq12, .ref mq13, .int 0, .int 0, .ref mq14, .ref mq15, .ref mq16, .int 0, .int 0, .ref mq17, .ref mq18, .int (-1), .int 0, .ref mq19, .int 0, .long 0, .ref mq20, .int 0, .int 0, .ref mq21, .ref mq22, .ref mq23, .int 0]))]) (w1 := []) hP hD [0, 1] [2] rfl rfl (by decide) (by decide) hk1 hFc zP0 zD0
  have hP : va_P (dC, dI) vwCl [(mh0, .inr (11, [.int 0, .ref mq1, .int 0, .int 0, .int 0, .int 0, .ref mq2, .ref mq3, .ref mq4, .ref mq5, .ref mq6, .ref mq7, .ref mq8, .int 0, .int 0, .ref mq9, .ref mq10, .ref mq11, .ref mq12, .ref mq13, .int 0, .int 0, .ref mq14, .ref mq15, .ref mq16, .int 0, .int 0, .ref mq17, .ref mq18, .int (-1), .int 0, .ref mq19, .int 0, .long 0, .ref mq20, .int 0, .int 0, .ref mq21, .ref mq22, .ref mq23, .int 0]))] H := hP
  have hD : va_D (fun q : Nat => s.heap.size ≤ q) [(mh0, .inr (11, [.int 0, .ref mq1, .int 0, .int 0, .int 0, .int 0, .ref mq2, .ref mq3, .ref mq4, .ref mq5, .ref mq6, .ref mq7, .ref mq8, .int 0, .int 0, .ref mq9, .ref mq10, .ref mq11, .ref mq12, .ref mq13, .int 0, .int 0, .ref mq14, .ref mq15, .ref mq16, .int 0, .int 0, .ref mq17, .ref mq18, .int (-1), .int 0, .ref mq19, .int 0, .long 0, .ref mq20, .int 0, .int 0, .ref mq21, .ref mq22, .ref mq23, .int 0]))] := hD
  rcases hw with ⟨c_3_0, rfl⟩ | ⟨c_3_0, c_3_1, rfl⟩ | ⟨c_3_0, c_3_1, rfl⟩
  · skip
    have i_3_0 : (xs 1).toInt < (-1) := z1 rfl (by decide) c_3_0
    refine lv_aload_n hx hb dL_law_536 rfl (lv_at hl 2 rfl) ?_
    refine lv_aload_n hx hb dL_law_537 rfl (lv_at hl 0 rfl) ?_
    refine lv_iload hx hb dL_law_538 (lv_at hl 4 rfl) ?_
    refine lv_iconst (v := 1) hx hb dL_law_540 (by decide) ?_
    refine lv_iadd hx hb dL_law_541 ?_
    refine lv_topi (fun v_4 ev_4 => ?_)
    obtain rfl : v_4 = 1 := ev_4.trans (by decide)
    refine va_sld hx hb hX hbl hbA hS (by unfold vp_in; decide) dL_law_542 ?_
    refine lv_topi (fun v_5 ev_5 => ?_)
    obtain rfl : v_5 = xs 1 := ev_5
    have hPc := hP.sub (ws' := [(mh0, .inr (11, [.int 0, .ref mq1, .int 0, .int 0, .int 0, .int 0, .ref mq2, .ref mq3, .ref mq4, .ref mq5, .ref mq6, .ref mq7, .ref mq8, .int 0, .int 0, .ref mq9, .ref mq10, .ref mq11, .ref mq12, .ref mq13, .int 0, .int 0, .ref mq14, .ref mq15, .ref mq16, .int 0, .int 0, .ref mq17, .ref mq18, .int (-1), .int 0, .ref mq19, .int 0, .long 0, .ref mq20, .int 0, .int 0, .ref mq21, .ref mq22, .ref mq23, .int 0]))]) [0] rfl
    have hDc := hD.sub (ws' := [(mh0, .inr (11, [.int 0, .ref mq1, .int 0, .int 0, .int 0, .int 0, .ref mq2, .ref mq3, .ref mq4, .ref mq5, .ref mq6, .ref mq7, .ref mq8, .int 0, .int 0, .ref mq9, .ref mq10, .ref mq11, .ref mq12, .ref mq13, .int 0, .int 0, .ref mq14, .ref mq15, .ref mq16, .int 0, .int 0, .ref mq17, .ref mq18, .int (-1), .int 0, .ref mq19, .int 0, .long 0, .ref mq20, .int 0, .int 0, .ref mq21, .ref mq22, .ref mq23, .int 0]))]) [0] (by decide) rfl
    have hFc := va_free (wc := [(mh0, .inr (11, [.int 0, .ref mq1, .int 0, .int 0, .int 0, .int 0, .ref mq2, .ref mq3, .ref mq4, .ref mq5, .ref mq6, .ref mq7, .ref mq8, .int 0, .int 0, .ref mq9, .ref mq10, .ref mq11, .ref mq12, .ref mq13, .int 0, .int 0, .ref mq14, .ref mq15, .ref mq16, .int 0, .int 0, .ref mq17, .ref mq18, .int (-1), .int 0, .ref mq19, .int 0, .long 0, .ref mq20, .int 0, .int 0, .ref mq21, .ref mq22, .ref mq23, .int 0]))]) hD hS hA [0] rfl
    refine va_calli (va_runV (As := [.int (xs 1)]) (rest := [.int 0]) ⟨hx, hb, hml, hown, hts⟩ (c_X11_law l dC dI cI cJ mh0 mq1 mq2 mq3 mq4 mq5 mq6 mq7 mq8 mq9 mq10 mq11 mq12 mq13 mq14 mq15 mq16 mq17 mq18 mq19 mq20 mq21 mq22 mq23 H.size (xs 1)) (cwV 1 hts (zgV qw1418 qw1419 qw1420 qw108 qw1421) rfl rfl rfl hd_X11_law ⟨Nat.le_of_ble_eq_true rfl, Nat.le_of_ble_eq_true rfl⟩) (zPV hPc hK hDc (va_recv hK hP (ci := 11) (q0 := 0) rfl rfl)) rfl rfl hl.1 rfl (lv_room (Nat.le_of_ble_eq_true rfl)) dL_law_543 ⟨Nat.le_of_ble_eq_true rfl, Nat.le_of_ble_eq_true rfl⟩) hS (fun q _ h => hFc q h) hFc (fun r_6 u t H locs ht hvm hw hB hz1 hk1 hS => ?_)
    obtain ⟨hP, hD⟩ := va_join (wr := []) (w1 := []) hP hD [0] [] rfl rfl (by decide) (by decide) hk1 hFc zP0 zD0
    have hP : va_P (dC, dI) vwCl [] H := hP
    have hD : va_D (fun q : Nat => s.heap.size ≤ q) [] := hD
    rcases hw with ⟨c_6_0, rfl⟩ | ⟨c_6_0, c_6_1, rfl⟩ | ⟨c_6_0, c_6_1, rfl⟩
    · skip
      have i_6_0 : (xs 1).toInt < (-1) := z1 rfl (by decide) c_6_0
      refine lv_icmp_eq (tgt := 1825) hx hb dL_law_546 (by decide) (fun _ => ?_) (fun c => absurd (by decide) c)
      exact law_end C0 hS (lv_sub hl [0, 4] rfl)
    · skip
      have i_6_0 : (-1) ≤ (xs 1).toInt := z2 rfl (by decide) c_6_0
      have i_6_1 : (-1) < (xs 1).toInt := z1 (by decide) rfl c_6_1
      exfalso; omega
    · skip
      have i_6_0 : (-1) ≤ (xs 1).toInt := z2 rfl (by decide) c_6_0
      have i_6_1 : (xs 1).toInt ≤ (-1) := z2 (by decide) rfl c_6_1
      exfalso; omega
  · skip
    have i_3_0 : (-1) ≤ (xs 1).toInt := z2 rfl (by decide) c_3_0
    have i_3_1 : (xs 1).toInt < 0 := z1 rfl (by decide) c_3_1
    refine lv_aload_n hx hb dL_law_536 rfl (lv_at hl 2 rfl) ?_
    refine lv_aload_n hx hb dL_law_537 rfl (lv_at hl 0 rfl) ?_
    refine lv_iload hx hb dL_law_538 (lv_at hl 4 rfl) ?_
    refine lv_iconst (v := 1) hx hb dL_law_540 (by decide) ?_
    refine lv_iadd hx hb dL_law_541 ?_
    refine lv_topi (fun v_7 ev_7 => ?_)
    obtain rfl : v_7 = 1 := ev_7.trans (by decide)
    refine va_sld hx hb hX hbl hbA hS (by unfold vp_in; decide) dL_law_542 ?_
    refine lv_topi (fun v_8 ev_8 => ?_)
    obtain rfl : v_8 = xs 1 := ev_8
    have hPc := hP.sub (ws' := [(mh0, .inr (11, [.int 0, .ref mq1, .int 0, .int 0, .int 0, .int 0, .ref mq2, .ref mq3, .ref mq4, .ref mq5, .ref mq6, .ref mq7, .ref mq8, .int 0, .int 0, .ref mq9, .ref mq10, .ref mq11, .ref mq12, .ref mq13, .int 0, .int 0, .ref mq14, .ref mq15, .ref mq16, .int 0, .int 0, .ref mq17, .ref mq18, .int (-1), .int 0, .ref mq19, .int 0, .long 0, .ref mq20, .int 0, .int 0, .ref mq21, .ref mq22, .ref mq23, .int 0]))]) [0] rfl
    have hDc := hD.sub (ws' := [(mh0, .inr (11, [.int 0, .ref mq1, .int 0, .int 0, .int 0, .int 0, .ref mq2, .ref mq3, .ref mq4, .ref mq5, .ref mq6, .ref mq7, .ref mq8, .int 0, .int 0, .ref mq9, .ref mq10, .ref mq11, .ref mq12, .ref mq13, .int 0, .int 0, .ref mq14, .ref mq15, .ref mq16, .int 0, .int 0, .ref mq17, .ref mq18, .int (-1), .int 0, .ref mq19, .int 0, .long 0, .ref mq20, .int 0, .int 0, .ref mq21, .ref mq22, .ref mq23, .int 0]))]) [0] (by decide) rfl
    have hFc := va_free (wc := [(mh0, .inr (11, [.int 0, .ref mq1, .int 0, .int 0, .int 0, .int 0, .ref mq2, .ref mq3, .ref mq4, .ref mq5, .ref mq6, .ref mq7, .ref mq8, .int 0, .int 0, .ref mq9, .ref mq10, .ref mq11, .ref mq12, .ref mq13, .int 0, .int 0, .ref mq14, .ref mq15, .ref mq16, .int 0, .int 0, .ref mq17, .ref mq18, .int (-1), .int 0, .ref mq19, .int 0, .long 0, .ref mq20, .int 0, .int 0, .ref mq21, .ref mq22, .ref mq23, .int 0]))]) hD hS hA [0] rfl
    refine va_calli (va_runV (As := [.int (xs 1)]) (rest := [.int 1]) ⟨hx, hb, hml, hown, hts⟩ (c_X11_law l dC dI cI cJ mh0 mq1 mq2 mq3 mq4 mq5 mq6 mq7 mq8 mq9 mq10 mq11 mq12 mq13 mq14 mq15 mq16 mq17 mq18 mq19 mq20 mq21 mq22 mq23 H.size (xs 1)) (cwV 1 hts (zgV qw1418 qw1419 qw1420 qw108 qw1421) rfl rfl rfl hd_X11_law ⟨Nat.le_of_ble_eq_true rfl, Nat.le_of_ble_eq_true rfl⟩) (zPV hPc hK hDc (va_recv hK hP (ci := 11) (q0 := 0) rfl rfl)) rfl rfl hl.1 rfl (lv_room (Nat.le_of_ble_eq_true rfl)) dL_law_543 ⟨Nat.le_of_ble_eq_true rfl, Nat.le_of_ble_eq_true rfl⟩) hS (fun q _ h => hFc q h) hFc (fun r_9 u t H locs ht hvm hw hB hz1 hk1 hS => ?_)
    obtain ⟨hP, hD⟩ := va_join (wr := []) (w1 := []) hP hD [0] [] rfl rfl (by decide) (by decide) hk1 hFc zP0 zD0
    have hP : va_P (dC, dI) vwCl [] H := hP
    have hD : va_D (fun q : Nat => s.heap.size ≤ q) [] := hD
    rcases hw with ⟨c_9_0, rfl⟩ | ⟨c_9_0, c_9_1, rfl⟩ | ⟨c_9_0, c_9_1, rfl⟩
    · skip
      have i_9_0 : (xs 1).toInt < (-1) := z1 rfl (by decide) c_9_0
      exfalso; omega
    · skip
      have i_9_0 : (-1) ≤ (xs 1).toInt := z2 rfl (by decide) c_9_0
      have i_9_1 : (-1) < (xs 1).toInt := z1 (by decide) rfl c_9_1
      exfalso; omega
    · skip
      have i_9_0 : (-1) ≤ (xs 1).toInt := z2 rfl (by decide) c_9_0
      have i_9_1 : (xs 1).toInt ≤ (-1) := z2 (by decide) rfl c_9_1
      refine lv_icmp_eq (tgt := 1825) hx hb dL_law_546 (by decide) (fun _ => ?_) (fun c => absurd (by decide) c)
      exact law_end C0 hS (lv_sub hl [0, 4] rfl)
  · skip
    have i_3_0 : (-1) ≤ (xs 1).toInt := z2 rfl (by decide) c_3_0
    have i_3_1 : 0 ≤ (xs 1).toInt := z2 rfl (by decide) c_3_1
    refine lv_aload_n hx hb dL_law_536 rfl (lv_at hl 2 rfl) ?_
    refine lv_aload_n hx hb dL_law_537 rfl (lv_at hl 0 rfl) ?_
    refine lv_iload hx hb dL_law_538 (lv_at hl 4 rfl) ?_
    refine lv_iconst (v := 1) hx hb dL_law_540 (by decide) ?_
    refine lv_iadd hx hb dL_law_541 ?_
    refine lv_topi (fun v_10 ev_10 => ?_)
    obtain rfl : v_10 = 1 := ev_10.trans (by decide)
    refine va_sld hx hb hX hbl hbA hS (by unfold vp_in; decide) dL_law_542 ?_
    refine lv_topi (fun v_11 ev_11 => ?_)
    obtain rfl : v_11 = xs 1 := ev_11
    have hPc := hP.sub (ws' := [(mh0, .inr (11, [.int 0, .ref mq1, .int 0, .int 0, .int 0, .int 0, .ref mq2, .ref mq3, .ref mq4, .ref mq5, .ref mq6, .ref mq7, .ref mq8, .int 0, .int 0, .ref mq9, .ref mq10, .ref mq11, .ref mq12, .ref mq13, .int 0, .int 0, .ref mq14, .ref mq15, .ref mq16, .int 0, .int 0, .ref mq17, .ref mq18, .int (-1), .int 0, .ref mq19, .int 0, .long 0, .ref mq20, .int 0, .int 0, .ref mq21, .ref mq22, .ref mq23, .int 0]))]) [0] rfl
    have hDc := hD.sub (ws' := [(mh0, .inr (11, [.int 0, .ref mq1, .int 0, .int 0, .int 0, .int 0, .ref mq2, .ref mq3, .ref mq4, .ref mq5, .ref mq6, .ref mq7, .ref mq8, .int 0, .int 0, .ref mq9, .ref mq10, .ref mq11, .ref mq12, .ref mq13, .int 0, .int 0, .ref mq14, .ref mq15, .ref mq16, .int 0, .int 0, .ref mq17, .ref mq18, .int (-1), .int 0, .ref mq19, .int 0, .long 0, .ref mq20, .int 0, .int 0, .ref mq21, .ref mq22, .ref mq23, .int 0]))]) [0] (by decide) rfl
    have hFc := va_free (wc := [(mh0, .inr (11, [.int 0, .ref mq1, .int 0, .int 0, .int 0, .int 0, .ref mq2, .ref mq3, .ref mq4, .ref mq5, .ref mq6, .ref mq7, .ref mq8, .int 0, .int 0, .ref mq9, .ref mq10, .ref mq11, .ref mq12, .ref mq13, .int 0, .int 0, .ref mq14, .ref mq15, .ref mq16, .int 0, .int 0, .ref mq17, .ref mq18, .int (-1), .int 0, .ref mq19, .int 0, .long 0, .ref mq20, .int 0, .int 0, .ref mq21, .ref mq22, .ref mq23, .int 0]))]) hD hS hA [0] rfl
    refine va_calli (va_runV (As := [.int (xs 1)]) (rest := [.int 0]) ⟨hx, hb, hml, hown, hts⟩ (c_X11_law l dC dI cI cJ mh0 mq1 mq2 mq3 mq4 mq5 mq6 mq7 mq8 mq9 mq10 mq11 mq12 mq13 mq14 mq15 mq16 mq17 mq18 mq19 mq20 mq21 mq22 mq23 H.size (xs 1)) (cwV 1 hts (zgV qw1418 qw1419 qw1420 qw108 qw1421) rfl rfl rfl hd_X11_law ⟨Nat.le_of_ble_eq_true rfl, Nat.le_of_ble_eq_true rfl⟩) (zPV hPc hK hDc (va_recv hK hP (ci := 11) (q0 := 0) rfl rfl)) rfl rfl hl.1 rfl (lv_room (Nat.le_of_ble_eq_true rfl)) dL_law_543 ⟨Nat.le_of_ble_eq_true rfl, Nat.le_of_ble_eq_true rfl⟩) hS (fun q _ h => hFc q h) hFc (fun r_12 u t H locs ht hvm hw hB hz1 hk1 hS => ?_)
    obtain ⟨hP, hD⟩ := va_join (wr := []) (w1 := []) hP hD [0] [] rfl rfl (by decide) (by decide) hk1 hFc zP0 zD0
    have hP : va_P (dC, dI) vwCl [] H := hP
    have hD : va_D (fun q : Nat => s.heap.size ≤ q) [] := hD
    rcases hw with ⟨c_12_0, rfl⟩ | ⟨c_12_0, c_12_1, rfl⟩ | ⟨c_12_0, c_12_1, rfl⟩
    · skip
      have i_12_0 : (xs 1).toInt < (-1) := z1 rfl (by decide) c_12_0
      exfalso; omega
    · skip
      have i_12_0 : (-1) ≤ (xs 1).toInt := z2 rfl (by decide) c_12_0
      have i_12_1 : (-1) < (xs 1).toInt := z1 (by decide) rfl c_12_1
      refine lv_icmp_eq (tgt := 1825) hx hb dL_law_546 (by decide) (fun _ => ?_) (fun c => absurd (by decide) c)
      exact law_end C0 hS (lv_sub hl [0, 4] rfl)
    · skip
      have i_12_0 : (-1) ≤ (xs 1).toInt := z2 rfl (by decide) c_12_0
      have i_12_1 : (xs 1).toInt ≤ (-1) := z2 (by decide) rfl c_12_1
      exfalso; omega
set_option maxHeartbeats 4000000 in
set_option maxRecDepth 100000 in
theorem law_case_8 {p : Program} {l : Launch} {e : Env} {s : State} {m : MethodId} {below : List Frame} {meth : Method} {c : Code} {b : Nat} {xs : Nat → Int32} {dC : Nat → ClassId} {dI : Nat → Nat → Nat} {cI cJ : ClassId} {xh0 mh0 o0 xq1 xq4 xq6 xq9 xq14 xq19 xq20 xq25 xq30 xq33 xq39 xq45 xq47 xq16 xq17 xq18 mq1 mq2 mq3 mq4 mq5 mq6 mq7 mq8 mq9 mq10 mq11 mq12 mq13 mq14 mq15 mq16 mq17 mq18 mq19 mq20 mq21 mq22 mq23 g0 : Nat} (hl0 : l.stackTraces = false) (C0 : lw_At p s m meth c b 7 xs) (hK : va_K (dC, dI) vwCl [(cI, .int), (cJ, .long)] s) (hF : zF g0 (fun q : Nat => s.heap.size ≤ q) s) (hG : zG (fun q : Nat => s.heap.size ≤ q) s) {H : Heap} {locs : List Loc} (hP : va_P (dC, dI) vwCl [(xh0, .inr (10, [.ref xq1, .ref xq4, .ref xq6, .ref xq9, .ref xq14, .ref xq19, .ref xq20, .ref xq25, .ref xq30, .ref xq33, .ref xq39, .ref xq45, .ref xq47, .int 0, .int (-1), .int 0, .int 0])), (xq14, .inr (1, [.ref xq16, .ref xq17, .ref xq18, .int 0, .int 0])), (mh0, .inr (11, [.int 0, .ref mq1, .int 0, .int 0, .int 0, .int 0, .ref mq2, .ref mq3, .ref mq4, .ref mq5, .ref mq6, .ref mq7, .ref mq8, .int 0, .int 0, .ref mq9, .ref mq10, .ref mq11, .ref mq12, .ref mq13, .int 0, .int 0, .ref mq14, .ref mq15, .ref mq16, .int 0, .int 0, .ref mq17, .ref mq18, .int (-1), .int 0, .ref mq19, .int 0, .long 0, .ref mq20, .int 0, .int 0, .ref mq21, .ref mq22, .ref mq23, .int 0]))] H) (hD : va_D (fun q : Nat => s.heap.size ≤ q) [(xh0, .inr (10, [.ref xq1, .ref xq4, .ref xq6, .ref xq9, .ref xq14, .ref xq19, .ref xq20, .ref xq25, .ref xq30, .ref xq33, .ref xq39, .ref xq45, .ref xq47, .int 0, .int (-1), .int 0, .int 0])), (xq14, .inr (1, [.ref xq16, .ref xq17, .ref xq18, .int 0, .int 0])), (mh0, .inr (11, [.int 0, .ref mq1, .int 0, .int 0, .int 0, .int 0, .ref mq2, .ref mq3, .ref mq4, .ref mq5, .ref mq6, .ref mq7, .ref mq8, .int 0, .int 0, .ref mq9, .ref mq10, .ref mq11, .ref mq12, .ref mq13, .int 0, .int 0, .ref mq14, .ref mq15, .ref mq16, .int 0, .int 0, .ref mq17, .ref mq18, .int (-1), .int 0, .ref mq19, .int 0, .long 0, .ref mq20, .int 0, .int 0, .ref mq21, .ref mq22, .ref mq23, .int 0]))]) (hS : va_S (fun q : Nat => s.heap.size ≤ q) s.heap H locs) {ls : Array Slot} (hl : lv_has ls 7 [(0, .ref b), (1, .ref xh0), (2, .ref mh0), (3, .ref o0), (4, .int 0)]) : W p l e room_1 s m #[Value.ref b] below meth c H locs 62 13545 (lw_Z below #[Value.ref b] s) (F0 m 551 ls []) := by
  obtain ⟨hx, hb, hr, hml, hown, hts0, hX, hbl, hlocks, hgv⟩ := id C0
  have hts : ∀ w ∈ wA, w.before #[Value.ref b] s = true := fun w h => hts0 w (List.mem_filter.mp h).1
  have hown : s.vm.findClass RL = some m.cls := hown
  have hA : ∀ q : Nat, s.heap.size ≤ q → (fun q : Nat => s.heap.size ≤ q) q := fun _ h => h
  have hbA : ¬ (fun q : Nat => s.heap.size ≤ q) b := Nat.not_le.mpr hbl
  refine lv_aload_n hx hb dL_law_551 rfl (lv_at hl 1 rfl) ?_
  refine lv_aload_n hx hb dL_law_552 rfl (lv_at hl 0 rfl) ?_
  refine lv_iload hx hb dL_law_553 (lv_at hl 4 rfl) ?_
  refine lv_iconst (v := 1) hx hb dL_law_555 (by decide) ?_
  refine lv_iadd hx hb dL_law_556 ?_
  refine lv_topi (fun v_1 ev_1 => ?_)
  obtain rfl : v_1 = 1 := ev_1.trans (by decide)
  refine va_sld hx hb hX hbl hbA hS (by unfold vp_in; decide) dL_law_557 ?_
  refine lv_topi (fun v_2 ev_2 => ?_)
  obtain rfl : v_2 = xs 1 := ev_2
  refine lv_aload_n hx hb dL_law_558 rfl (lv_at hl 0 rfl) ?_
  refine lv_iload hx hb dL_law_559 (lv_at hl 4 rfl) ?_
  refine lv_iconst (v := 2) hx hb dL_law_561 (by decide) ?_
  refine lv_iadd hx hb dL_law_562 ?_
  refine lv_topi (fun v_3 ev_3 => ?_)
  obtain rfl : v_3 = 2 := ev_3.trans (by decide)
  refine va_sld hx hb hX hbl hbA hS (by unfold vp_in; decide) dL_law_563 ?_
  refine lv_topi (fun v_4 ev_4 => ?_)
  obtain rfl : v_4 = xs 2 := ev_4
  have hPc := hP.sub (ws' := [(xh0, .inr (10, [.ref xq1, .ref xq4, .ref xq6, .ref xq9, .ref xq14, .ref xq19, .ref xq20, .ref xq25, .ref xq30, .ref xq33, .ref xq39, .ref xq45, .ref xq47, .int 0, .int (-1), .int 0, .int 0])), (xq14, .inr (1, [.ref xq16, .ref xq17, .ref xq18, .int 0, .int 0]))]) [0, 1] rfl
  have hDc := hD.sub (ws' := [(xh0, .inr (10, [.ref xq1, .ref xq4, .ref xq6, .ref xq9, .ref xq14, .ref xq19, .ref xq20, .ref xq25, .ref xq30, .ref xq33, .ref xq39, .ref xq45, .ref xq47, .int 0, .int (-1), .int 0, .int 0])), (xq14, .inr (1, [.ref xq16, .ref xq17, .ref xq18, .int 0, .int 0]))]) [0, 1] (by decide) rfl
  have hFc := zfr hS hA
  refine va_calli (va_runV (As := [.int (xs 1), .int (xs 2)]) (rest := []) ⟨hx, hb, hml, hown, hts⟩ (c_X10_flattery l dC dI cI cJ xh0 xq1 xq4 xq6 xq9 xq14 xq19 xq20 xq25 xq30 xq33 xq39 xq45 xq47 xq16 xq17 xq18 H.size (xs 1) (xs 2)) (cwV 2 hts (zgV qw621 qw622 qw623 qw98 qw624) rfl rfl rfl hd_X10_flattery ⟨Nat.le_of_ble_eq_true rfl, Nat.le_of_ble_eq_true rfl⟩) (zPV hPc hK hDc (va_recv hK hP (ci := 10) (q0 := 0) rfl rfl)) rfl rfl hl.1 rfl (lv_room (Nat.le_of_ble_eq_true rfl)) dL_law_564 ⟨Nat.le_of_ble_eq_true rfl, Nat.le_of_ble_eq_true rfl⟩) hS (fun q _ h => hFc q h) hFc (fun r_5 u t H locs ht hvm hw hB hz1 hk1 hS => ?_)
  have hP := zkeep hP hk1
  have hw : r_5 = (-1) := hw
  subst hw
  refine lv_aload_n hx hb dL_law_567 rfl (lv_at hl 2 rfl) ?_
  refine lv_aload_n hx hb dL_law_568 rfl (lv_at hl 0 rfl) ?_
  refine lv_iload hx hb dL_law_569 (lv_at hl 4 rfl) ?_
  refine lv_iconst (v := 1) hx hb dL_law_571 (by decide) ?_
  refine lv_iadd hx hb dL_law_572 ?_
  refine lv_topi (fun v_6 ev_6 => ?_)
  obtain rfl : v_6 = 1 := ev_6.trans (by decide)
  refine va_sld hx hb hX hbl hbA hS (by unfold vp_in; decide) dL_law_573 ?_
  refine lv_topi (fun v_7 ev_7 => ?_)
  obtain rfl : v_7 = xs 1 := ev_7
  refine lv_aload_n hx hb dL_law_574 rfl (lv_at hl 0 rfl) ?_
  refine lv_iload hx hb dL_law_575 (lv_at hl 4 rfl) ?_
  refine lv_iconst (v := 2) hx hb dL_law_577 (by decide) ?_
  refine lv_iadd hx hb dL_law_578 ?_
  refine lv_topi (fun v_8 ev_8 => ?_)
  obtain rfl : v_8 = 2 := ev_8.trans (by decide)
  refine va_sld hx hb hX hbl hbA hS (by unfold vp_in; decide) dL_law_579 ?_
  refine lv_topi (fun v_9 ev_9 => ?_)
  obtain rfl : v_9 = xs 2 := ev_9
  have hPc := hP.sub (ws' := [(mh0, .inr (11, [.int 0, .ref mq1, .int 0, .int 0, .int 0, .int 0, .ref mq2, .ref mq3, .ref mq4, .ref mq5, .ref mq6, .ref mq7, .ref mq8, .int 0, .int 0, .ref mq9, .ref mq10, .ref mq11, .ref mq12, .ref mq13, .int 0, .int 0, .ref mq14, .ref mq15, .ref mq16, .int 0, .int 0, .ref mq17, .ref mq18, .int (-1), .int 0, .ref mq19, .int 0, .long 0, .ref mq20, .int 0, .int 0, .ref mq21, .ref mq22, .ref mq23, .int 0]))]) [2] rfl
  have hDc := hD.sub (ws' := [(mh0, .inr (11, [.int 0, .ref mq1, .int 0, .int 0, .int 0, .int 0, .ref mq2, .ref mq3, .ref mq4, .ref mq5, .ref mq6, .ref mq7, .ref mq8, .int 0, .int 0, .ref mq9, .ref mq10, .ref mq11, .ref mq12, .ref mq13, .int 0, .int 0, .ref mq14, .ref mq15, .ref mq16, .int 0, .int 0, .ref mq17, .ref mq18, .int (-1), .int 0, .ref mq19, .int 0, .long 0, .ref mq20, .int 0, .int 0, .ref mq21, .ref mq22, .ref mq23, .int 0]))]) [2] (by decide) rfl
  have hFc := zfr hS hA
  refine va_calli (va_runV (As := [.int (xs 1), .int (xs 2)]) (rest := [.int (-1)]) ⟨hx, hb, hml, hown, hts⟩ (c_X11_flattery l dC dI cI cJ mh0 mq1 mq2 mq3 mq4 mq5 mq6 mq7 mq8 mq9 mq10 mq11 mq12 mq13 mq14 mq15 mq16 mq17 mq18 mq19 mq20 mq21 mq22 mq23 H.size (xs 1) (xs 2)) (cwV 2 hts (zgV qw1422 qw1423 qw1424 qw108 qw1425) rfl rfl rfl hd_X11_flattery ⟨Nat.le_of_ble_eq_true rfl, Nat.le_of_ble_eq_true rfl⟩) (zPV hPc hK hDc (va_recv hK hP (ci := 11) (q0 := 2) rfl rfl)) rfl rfl hl.1 rfl (lv_room (Nat.le_of_ble_eq_true rfl)) dL_law_580 ⟨Nat.le_of_ble_eq_true rfl, Nat.le_of_ble_eq_true rfl⟩) hS (fun q _ h => hFc q h) hFc (fun r_10 u t H locs ht hvm hw hB hz1 hk1 hS => ?_)
  have hP := zkeep hP hk1
  have hw : r_10 = (-1) := hw
  subst hw
  refine lv_icmp_eq (tgt := 1825) hx hb dL_law_583 (by decide) (fun _ => ?_) (fun c => absurd (by decide) c)
  exact law_end C0 hS (lv_sub hl [0, 4] rfl)
set_option maxHeartbeats 4000000 in
set_option maxRecDepth 100000 in
theorem law_case_9 {p : Program} {l : Launch} {e : Env} {s : State} {m : MethodId} {below : List Frame} {meth : Method} {c : Code} {b : Nat} {xs : Nat → Int32} {dC : Nat → ClassId} {dI : Nat → Nat → Nat} {cI cJ : ClassId} {xh0 mh0 o0 xq1 xq4 xq6 xq9 xq14 xq19 xq20 xq25 xq30 xq33 xq39 xq45 xq47 xq16 xq17 xq18 mq1 mq2 mq3 mq4 mq5 mq6 mq7 mq8 mq9 mq10 mq11 mq12 mq13 mq14 mq15 mq16 mq17 mq18 mq19 mq20 mq21 mq22 mq23 g0 : Nat} (hl0 : l.stackTraces = false) (C0 : lw_At p s m meth c b 7 xs) (hK : va_K (dC, dI) vwCl [(cI, .int), (cJ, .long)] s) (hF : zF g0 (fun q : Nat => s.heap.size ≤ q) s) (hG : zG (fun q : Nat => s.heap.size ≤ q) s) {H : Heap} {locs : List Loc} (hP : va_P (dC, dI) vwCl [(xh0, .inr (10, [.ref xq1, .ref xq4, .ref xq6, .ref xq9, .ref xq14, .ref xq19, .ref xq20, .ref xq25, .ref xq30, .ref xq33, .ref xq39, .ref xq45, .ref xq47, .int 0, .int (-1), .int 0, .int 0])), (xq14, .inr (1, [.ref xq16, .ref xq17, .ref xq18, .int 0, .int 0])), (mh0, .inr (11, [.int 0, .ref mq1, .int 0, .int 0, .int 0, .int 0, .ref mq2, .ref mq3, .ref mq4, .ref mq5, .ref mq6, .ref mq7, .ref mq8, .int 0, .int 0, .ref mq9, .ref mq10, .ref mq11, .ref mq12, .ref mq13, .int 0, .int 0, .ref mq14, .ref mq15, .ref mq16, .int 0, .int 0, .ref mq17, .ref mq18, .int (-1), .int 0, .ref mq19, .int 0, .long 0, .ref mq20, .int 0, .int 0, .ref mq21, .ref mq22, .ref mq23, .int 0]))] H) (hD : va_D (fun q : Nat => s.heap.size ≤ q) [(xh0, .inr (10, [.ref xq1, .ref xq4, .ref xq6, .ref xq9, .ref xq14, .ref xq19, .ref xq20, .ref xq25, .ref xq30, .ref xq33, .ref xq39, .ref xq45, .ref xq47, .int 0, .int (-1), .int 0, .int 0])), (xq14, .inr (1, [.ref xq16, .ref xq17, .ref xq18, .int 0, .int 0])), (mh0, .inr (11, [.int 0, .ref mq1, .int 0, .int 0, .int 0, .int 0, .ref mq2, .ref mq3, .ref mq4, .ref mq5, .ref mq6, .ref mq7, .ref mq8, .int 0, .int 0, .ref mq9, .ref mq10, .ref mq11, .ref mq12, .ref mq13, .int 0, .int 0, .ref mq14, .ref mq15, .ref mq16, .int 0, .int 0, .ref mq17, .ref mq18, .int (-1), .int 0, .ref mq19, .int 0, .long 0, .ref mq20, .int 0, .int 0, .ref mq21, .ref mq22, .ref mq23, .int 0]))]) (hS : va_S (fun q : Nat => s.heap.size ≤ q) s.heap H locs) {ls : Array Slot} (hl : lv_has ls 7 [(0, .ref b), (1, .ref xh0), (2, .ref mh0), (3, .ref o0), (4, .int 0)]) : W p l e room_1 s m #[Value.ref b] below meth c H locs 62 13545 (lw_Z below #[Value.ref b] s) (F0 m 588 ls []) := by
  obtain ⟨hx, hb, hr, hml, hown, hts0, hX, hbl, hlocks, hgv⟩ := id C0
  have hts : ∀ w ∈ wA, w.before #[Value.ref b] s = true := fun w h => hts0 w (List.mem_filter.mp h).1
  have hown : s.vm.findClass RL = some m.cls := hown
  have hA : ∀ q : Nat, s.heap.size ≤ q → (fun q : Nat => s.heap.size ≤ q) q := fun _ h => h
  have hbA : ¬ (fun q : Nat => s.heap.size ≤ q) b := Nat.not_le.mpr hbl
  refine lv_aload_n hx hb dL_law_588 rfl (lv_at hl 1 rfl) ?_
  refine lv_aload_n hx hb dL_law_589 rfl (lv_at hl 0 rfl) ?_
  refine lv_iload hx hb dL_law_590 (lv_at hl 4 rfl) ?_
  refine lv_iconst (v := 1) hx hb dL_law_592 (by decide) ?_
  refine lv_iadd hx hb dL_law_593 ?_
  refine lv_topi (fun v_1 ev_1 => ?_)
  obtain rfl : v_1 = 1 := ev_1.trans (by decide)
  refine va_sld hx hb hX hbl hbA hS (by unfold vp_in; decide) dL_law_594 ?_
  refine lv_topi (fun v_2 ev_2 => ?_)
  obtain rfl : v_2 = xs 1 := ev_2
  refine lv_aload_n hx hb dL_law_595 rfl (lv_at hl 0 rfl) ?_
  refine lv_iload hx hb dL_law_596 (lv_at hl 4 rfl) ?_
  refine lv_iconst (v := 2) hx hb dL_law_598 (by decide) ?_
  refine lv_iadd hx hb dL_law_599 ?_
  refine lv_topi (fun v_3 ev_3 => ?_)
  obtain rfl : v_3 = 2 := ev_3.trans (by decide)
  refine va_sld hx hb hX hbl hbA hS (by unfold vp_in; decide) dL_law_600 ?_
  refine lv_topi (fun v_4 ev_4 => ?_)
  obtain rfl : v_4 = xs 2 := ev_4
  refine lv_aload_n hx hb dL_law_601 rfl (lv_at hl 0 rfl) ?_
  refine lv_iload hx hb dL_law_602 (lv_at hl 4 rfl) ?_
  refine lv_iconst (v := 3) hx hb dL_law_604 (by decide) ?_
  refine lv_iadd hx hb dL_law_605 ?_
  refine lv_topi (fun v_5 ev_5 => ?_)
  obtain rfl : v_5 = 3 := ev_5.trans (by decide)
  refine va_sld hx hb hX hbl hbA hS (by unfold vp_in; decide) dL_law_606 ?_
  refine lv_topi (fun v_6 ev_6 => ?_)
  obtain rfl : v_6 = xs 3 := ev_6
  have hPc := hP.sub (ws' := [(xh0, .inr (10, [.ref xq1, .ref xq4, .ref xq6, .ref xq9, .ref xq14, .ref xq19, .ref xq20, .ref xq25, .ref xq30, .ref xq33, .ref xq39, .ref xq45, .ref xq47, .int 0, .int (-1), .int 0, .int 0])), (xq14, .inr (1, [.ref xq16, .ref xq17, .ref xq18, .int 0, .int 0]))]) [0, 1] rfl
  have hDc := hD.sub (ws' := [(xh0, .inr (10, [.ref xq1, .ref xq4, .ref xq6, .ref xq9, .ref xq14, .ref xq19, .ref xq20, .ref xq25, .ref xq30, .ref xq33, .ref xq39, .ref xq45, .ref xq47, .int 0, .int (-1), .int 0, .int 0])), (xq14, .inr (1, [.ref xq16, .ref xq17, .ref xq18, .int 0, .int 0]))]) [0, 1] (by decide) rfl
  have hFc := zfr hS hA
  refine va_calli (va_runV (As := [.int (xs 1), .int (xs 2), .int (xs 3)]) (rest := []) ⟨hx, hb, hml, hown, hts⟩ (c_X10_shown l dC dI cI cJ xh0 xq1 xq4 xq6 xq9 xq14 xq19 xq20 xq25 xq30 xq33 xq39 xq45 xq47 xq16 xq17 xq18 H.size (xs 1) (xs 2) (xs 3)) (cwV 3 hts (zgV qw636 qw637 qw638 qw98 qw639) rfl rfl rfl hd_X10_shown ⟨Nat.le_of_ble_eq_true rfl, Nat.le_of_ble_eq_true rfl⟩) (zPV hPc hK hDc (va_recv hK hP (ci := 10) (q0 := 0) rfl rfl)) rfl rfl hl.1 rfl (lv_room (Nat.le_of_ble_eq_true rfl)) dL_law_607 ⟨Nat.le_of_ble_eq_true rfl, Nat.le_of_ble_eq_true rfl⟩) hS (fun q _ h => hFc q h) hFc (fun r_7 u t H locs ht hvm hw hB hz1 hk1 hS => ?_)
  have hP := zkeep hP hk1
  have hw : r_7 = (-1) := hw
  subst hw
  refine lv_aload_n hx hb dL_law_610 rfl (lv_at hl 2 rfl) ?_
  refine lv_aload_n hx hb dL_law_611 rfl (lv_at hl 0 rfl) ?_
  refine lv_iload hx hb dL_law_612 (lv_at hl 4 rfl) ?_
  refine lv_iconst (v := 1) hx hb dL_law_614 (by decide) ?_
  refine lv_iadd hx hb dL_law_615 ?_
  refine lv_topi (fun v_8 ev_8 => ?_)
  obtain rfl : v_8 = 1 := ev_8.trans (by decide)
  refine va_sld hx hb hX hbl hbA hS (by unfold vp_in; decide) dL_law_616 ?_
  refine lv_topi (fun v_9 ev_9 => ?_)
  obtain rfl : v_9 = xs 1 := ev_9
  refine lv_aload_n hx hb dL_law_617 rfl (lv_at hl 0 rfl) ?_
  refine lv_iload hx hb dL_law_618 (lv_at hl 4 rfl) ?_
  refine lv_iconst (v := 2) hx hb dL_law_620 (by decide) ?_
  refine lv_iadd hx hb dL_law_621 ?_
  refine lv_topi (fun v_10 ev_10 => ?_)
  obtain rfl : v_10 = 2 := ev_10.trans (by decide)
  refine va_sld hx hb hX hbl hbA hS (by unfold vp_in; decide) dL_law_622 ?_
  refine lv_topi (fun v_11 ev_11 => ?_)
  obtain rfl : v_11 = xs 2 := ev_11
  refine lv_aload_n hx hb dL_law_623 rfl (lv_at hl 0 rfl) ?_
  refine lv_iload hx hb dL_law_624 (lv_at hl 4 rfl) ?_
  refine lv_iconst (v := 3) hx hb dL_law_626 (by decide) ?_
  refine lv_iadd hx hb dL_law_627 ?_
  refine lv_topi (fun v_12 ev_12 => ?_)
  obtain rfl : v_12 = 3 := ev_12.trans (by decide)
  refine va_sld hx hb hX hbl hbA hS (by unfold vp_in; decide) dL_law_628 ?_
  refine lv_topi (fun v_13 ev_13 => ?_)
  obtain rfl : v_13 = xs 3 := ev_13
  have hPc := hP.sub (ws' := [(mh0, .inr (11, [.int 0, .ref mq1, .int 0, .int 0, .int 0, .int 0, .ref mq2, .ref mq3, .ref mq4, .ref mq5, .ref mq6, .ref mq7, .ref mq8, .int 0, .int 0, .ref mq9, .ref mq10, .ref mq11, .ref mq12, .ref mq13, .int 0, .int 0, .ref mq14, .ref mq15, .ref mq16, .int 0, .int 0, .ref mq17, .ref mq18, .int (-1), .int 0, .ref mq19, .int 0, .long 0, .ref mq20, .int 0, .int 0, .ref mq21, .ref mq22, .ref mq23, .int 0]))]) [2] rfl
  have hDc := hD.sub (ws' := [(mh0, .inr (11, [.int 0, .ref mq1, .int 0, .int 0, .int 0, .int 0, .ref mq2, .ref mq3, .ref mq4, .ref mq5, .ref mq6, .ref mq7, .ref mq8, .int 0, .int 0, .ref mq9, .ref mq10, .ref mq11, .ref mq12, .ref mq13, .int 0, .int 0, .ref mq14, .ref mq15, .ref mq16, .int 0, .int 0, .ref mq17, .ref mq18, .int (-1), .int 0, .ref mq19, .int 0, .long 0, .ref mq20, .int 0, .int 0, .ref mq21, .ref mq22, .ref mq23, .int 0]))]) [2] (by decide) rfl
  have hFc := zfr hS hA
  refine va_calli (va_runV (As := [.int (xs 1), .int (xs 2), .int (xs 3)]) (rest := [.int (-1)]) ⟨hx, hb, hml, hown, hts⟩ (c_X11_shown l dC dI cI cJ mh0 mq1 mq2 mq3 mq4 mq5 mq6 mq7 mq8 mq9 mq10 mq11 mq12 mq13 mq14 mq15 mq16 mq17 mq18 mq19 mq20 mq21 mq22 mq23 H.size (xs 1) (xs 2) (xs 3)) (cwV 3 hts (zgV qw1435 qw1436 qw1437 qw108 qw1438) rfl rfl rfl hd_X11_shown ⟨Nat.le_of_ble_eq_true rfl, Nat.le_of_ble_eq_true rfl⟩) (zPV hPc hK hDc (va_recv hK hP (ci := 11) (q0 := 2) rfl rfl)) rfl rfl hl.1 rfl (lv_room (Nat.le_of_ble_eq_true rfl)) dL_law_629 ⟨Nat.le_of_ble_eq_true rfl, Nat.le_of_ble_eq_true rfl⟩) hS (fun q _ h => hFc q h) hFc (fun r_14 u t H locs ht hvm hw hB hz1 hk1 hS => ?_)
  have hP := zkeep hP hk1
  have hw : r_14 = (-1) := hw
  subst hw
  refine lv_icmp_eq (tgt := 1825) hx hb dL_law_632 (by decide) (fun _ => ?_) (fun c => absurd (by decide) c)
  exact law_end C0 hS (lv_sub hl [0, 4] rfl)
set_option maxHeartbeats 4000000 in
set_option maxRecDepth 100000 in
theorem law_case_10 {p : Program} {l : Launch} {e : Env} {s : State} {m : MethodId} {below : List Frame} {meth : Method} {c : Code} {b : Nat} {xs : Nat → Int32} {dC : Nat → ClassId} {dI : Nat → Nat → Nat} {cI cJ : ClassId} {xh0 mh0 o0 xq1 xq4 xq6 xq9 xq14 xq19 xq20 xq25 xq30 xq33 xq39 xq45 xq47 xq16 xq17 xq18 mq1 mq2 mq3 mq4 mq5 mq6 mq7 mq8 mq9 mq10 mq11 mq12 mq13 mq14 mq15 mq16 mq17 mq18 mq19 mq20 mq21 mq22 mq23 g0 : Nat} (hl0 : l.stackTraces = false) (C0 : lw_At p s m meth c b 7 xs) (hK : va_K (dC, dI) vwCl [(cI, .int), (cJ, .long)] s) (hF : zF g0 (fun q : Nat => s.heap.size ≤ q) s) (hG : zG (fun q : Nat => s.heap.size ≤ q) s) {H : Heap} {locs : List Loc} (hP : va_P (dC, dI) vwCl [(xh0, .inr (10, [.ref xq1, .ref xq4, .ref xq6, .ref xq9, .ref xq14, .ref xq19, .ref xq20, .ref xq25, .ref xq30, .ref xq33, .ref xq39, .ref xq45, .ref xq47, .int 0, .int (-1), .int 0, .int 0])), (xq14, .inr (1, [.ref xq16, .ref xq17, .ref xq18, .int 0, .int 0])), (xq47, .inl (cI, 5, .inl (fun _ => 0))), (mh0, .inr (11, [.int 0, .ref mq1, .int 0, .int 0, .int 0, .int 0, .ref mq2, .ref mq3, .ref mq4, .ref mq5, .ref mq6, .ref mq7, .ref mq8, .int 0, .int 0, .ref mq9, .ref mq10, .ref mq11, .ref mq12, .ref mq13, .int 0, .int 0, .ref mq14, .ref mq15, .ref mq16, .int 0, .int 0, .ref mq17, .ref mq18, .int (-1), .int 0, .ref mq19, .int 0, .long 0, .ref mq20, .int 0, .int 0, .ref mq21, .ref mq22, .ref mq23, .int 0])), (mq18, .inl (cI, 5, .inl (fun _ => 0)))] H) (hD : va_D (fun q : Nat => s.heap.size ≤ q) [(xh0, .inr (10, [.ref xq1, .ref xq4, .ref xq6, .ref xq9, .ref xq14, .ref xq19, .ref xq20, .ref xq25, .ref xq30, .ref xq33, .ref xq39, .ref xq45, .ref xq47, .int 0, .int (-1), .int 0, .int 0])), (xq14, .inr (1, [.ref xq16, .ref xq17, .ref xq18, .int 0, .int 0])), (xq47, .inl (cI, 5, .inl (fun _ => 0))), (mh0, .inr (11, [.int 0, .ref mq1, .int 0, .int 0, .int 0, .int 0, .ref mq2, .ref mq3, .ref mq4, .ref mq5, .ref mq6, .ref mq7, .ref mq8, .int 0, .int 0, .ref mq9, .ref mq10, .ref mq11, .ref mq12, .ref mq13, .int 0, .int 0, .ref mq14, .ref mq15, .ref mq16, .int 0, .int 0, .ref mq17, .ref mq18, .int (-1), .int 0, .ref mq19, .int 0, .long 0, .ref mq20, .int 0, .int 0, .ref mq21, .ref mq22, .ref mq23, .int 0])), (mq18, .inl (cI, 5, .inl (fun _ => 0)))]) (hS : va_S (fun q : Nat => s.heap.size ≤ q) s.heap H locs) {ls : Array Slot} (hl : lv_has ls 7 [(0, .ref b), (1, .ref xh0), (2, .ref mh0), (3, .ref o0), (4, .int 0)]) : W p l e room_1 s m #[Value.ref b] below meth c H locs 62 13545 (lw_Z below #[Value.ref b] s) (F0 m 637 ls []) := by
  obtain ⟨hx, hb, hr, hml, hown, hts0, hX, hbl, hlocks, hgv⟩ := id C0
  have hts : ∀ w ∈ wA, w.before #[Value.ref b] s = true := fun w h => hts0 w (List.mem_filter.mp h).1
  have hown : s.vm.findClass RL = some m.cls := hown
  have hA : ∀ q : Nat, s.heap.size ≤ q → (fun q : Nat => s.heap.size ≤ q) q := fun _ h => h
  have hbA : ¬ (fun q : Nat => s.heap.size ≤ q) b := Nat.not_le.mpr hbl
  refine lv_aload_n hx hb dL_law_637 rfl (lv_at hl 1 rfl) ?_
  refine lv_aload_n hx hb dL_law_638 rfl (lv_at hl 0 rfl) ?_
  refine lv_iload hx hb dL_law_639 (lv_at hl 4 rfl) ?_
  refine lv_iconst (v := 1) hx hb dL_law_641 (by decide) ?_
  refine lv_iadd hx hb dL_law_642 ?_
  refine lv_topi (fun v_1 ev_1 => ?_)
  obtain rfl : v_1 = 1 := ev_1.trans (by decide)
  refine va_sld hx hb hX hbl hbA hS (by unfold vp_in; decide) dL_law_643 ?_
  refine lv_topi (fun v_2 ev_2 => ?_)
  obtain rfl : v_2 = xs 1 := ev_2
  refine lv_aload_n hx hb dL_law_644 rfl (lv_at hl 0 rfl) ?_
  refine lv_iload hx hb dL_law_645 (lv_at hl 4 rfl) ?_
  refine lv_iconst (v := 2) hx hb dL_law_647 (by decide) ?_
  refine lv_iadd hx hb dL_law_648 ?_
  refine lv_topi (fun v_3 ev_3 => ?_)
  obtain rfl : v_3 = 2 := ev_3.trans (by decide)
  refine va_sld hx hb hX hbl hbA hS (by unfold vp_in; decide) dL_law_649 ?_
  refine lv_topi (fun v_4 ev_4 => ?_)
  obtain rfl : v_4 = xs 2 := ev_4
  have hPc := hP.sub (ws' := [(xh0, .inr (10, [.ref xq1, .ref xq4, .ref xq6, .ref xq9, .ref xq14, .ref xq19, .ref xq20, .ref xq25, .ref xq30, .ref xq33, .ref xq39, .ref xq45, .ref xq47, .int 0, .int (-1), .int 0, .int 0])), (xq14, .inr (1, [.ref xq16, .ref xq17, .ref xq18, .int 0, .int 0])), (xq47, .inl (cI, 5, .inl (fun _ => 0)))]) [0, 1, 2] rfl
  have hDc := hD.sub (ws' := [(xh0, .inr (10, [.ref xq1, .ref xq4, .ref xq6, .ref xq9, .ref xq14, .ref xq19, .ref xq20, .ref xq25, .ref xq30, .ref xq33, .ref xq39, .ref xq45, .ref xq47, .int 0, .int (-1), .int 0, .int 0])), (xq14, .inr (1, [.ref xq16, .ref xq17, .ref xq18, .int 0, .int 0])), (xq47, .inl (cI, 5, .inl (fun _ => 0)))]) [0, 1, 2] (by decide) rfl
  have hFc := va_free (wc := [(xh0, .inr (10, [.ref xq1, .ref xq4, .ref xq6, .ref xq9, .ref xq14, .ref xq19, .ref xq20, .ref xq25, .ref xq30, .ref xq33, .ref xq39, .ref xq45, .ref xq47, .int 0, .int (-1), .int 0, .int 0])), (xq14, .inr (1, [.ref xq16, .ref xq17, .ref xq18, .int 0, .int 0])), (xq47, .inl (cI, 5, .inl (fun _ => 0)))]) hD hS hA [0, 1, 2] rfl
  refine va_calli (va_runV (As := [.int (xs 1), .int (xs 2)]) (rest := []) ⟨hx, hb, hml, hown, hts⟩ (c_X10_paint l dC dI cI cJ xh0 xq1 xq4 xq6 xq9 xq14 xq19 xq20 xq25 xq30 xq33 xq39 xq45 xq47 xq16 xq17 xq18 H.size (xs 1) (xs 2)) (cwV 2 hts (zgV qw680 qw681 qw682 qw98 qw683) rfl rfl rfl hd_X10_paint ⟨Nat.le_of_ble_eq_true rfl, Nat.le_of_ble_eq_true rfl⟩) (zPV hPc hK hDc (va_recv hK hP (ci := 10) (q0 := 0) rfl rfl)) rfl rfl hl.1 rfl (lv_room (Nat.le_of_ble_eq_true rfl)) dL_law_650 ⟨Nat.le_of_ble_eq_true rfl, Nat.le_of_ble_eq_true rfl⟩) hS (fun q _ h => hFc q h) hFc (fun r_5 u t H locs ht hvm hw hB hz1 hk1 hS => ?_)
  obtain ⟨hP1, hD1⟩ := hB
  rw [ht] at hP1
  obtain ⟨hP, hD⟩ := va_join (wr := [(mh0, .inr (11, [.int 0, .ref mq1, .int 0, .int 0, .int 0, .int 0, .ref mq2, .ref mq3, .ref mq4, .ref mq5, .ref mq6, .ref mq7, .ref mq8, .int 0, .int 0, .ref mq9, .ref mq10, .ref mq11, .ref mq12, .ref mq13, .int 0, .int 0, .ref mq14, .ref mq15, .ref mq16, .int 0, .int 0, .ref mq17, .ref mq18, .int (-1), .int 0, .ref mq19, .int 0, .long 0, .ref mq20, .int 0, .int 0, .ref mq21, .ref mq22, .ref mq23, .int 0])), (mq18, .inl (cI, 5, .inl (fun _ => 0)))]) (w1 := [(xq14, .inr (1, [.ref xq16, .ref xq17, .ref xq18, .int 0, .int 0])), (xh0, .inr (10, [.ref xq1, .ref xq4, .ref xq6, .ref xq9, .ref xq14, .ref xq19, .ref xq20, .ref xq25, .ref xq30, .ref xq33, .ref xq39, .ref xq45, .ref xq47, .int 0, .int (-1), .int 0, .int 0])), (xq47, .inl (cI, 5, .inl (upd (fun _ => 0) 0 1)))]) hP hD [0, 1, 2] [3, 4] rfl rfl (by decide) (by decide) hk1 hFc hP1 hD1
  have hP : va_P (dC, dI) vwCl [(mh0, .inr (11, [.int 0, .ref mq1, .int 0, .int 0, .int 0, .int 0, .ref mq2, .ref mq3, .ref mq4, .ref mq5, .ref mq6, .ref mq7, .ref mq8, .int 0, .int 0, .ref mq9, .ref mq10, .ref mq11, .ref mq12, .ref mq13, .int 0, .int 0, .ref mq14, .ref mq15, .ref mq16, .int 0, .int 0, .ref mq17, .ref mq18, .int (-1), .int 0, .ref mq19, .int 0, .long 0, .ref mq20, .int 0, .int 0, .ref mq21, .ref mq22, .ref mq23, .int 0])), (mq18, .inl (cI, 5, .inl (fun _ => 0))), (xq14, .inr (1, [.ref xq16, .ref xq17, .ref xq18, .int 0, .int 0])), (xh0, .inr (10, [.ref xq1, .ref xq4, .ref xq6, .ref xq9, .ref xq14, .ref xq19, .ref xq20, .ref xq25, .ref xq30, .ref xq33, .ref xq39, .ref xq45, .ref xq47, .int 0, .int (-1), .int 0, .int 0])), (xq47, .inl (cI, 5, .inl (upd (fun _ => 0) 0 1)))] H := hP
  have hD : va_D (fun q : Nat => s.heap.size ≤ q) [(mh0, .inr (11, [.int 0, .ref mq1, .int 0, .int 0, .int 0, .int 0, .ref mq2, .ref mq3, .ref mq4, .ref mq5, .ref mq6, .ref mq7, .ref mq8, .int 0, .int 0, .ref mq9, .ref mq10, .ref mq11, .ref mq12, .ref mq13, .int 0, .int 0, .ref mq14, .ref mq15, .ref mq16, .int 0, .int 0, .ref mq17, .ref mq18, .int (-1), .int 0, .ref mq19, .int 0, .long 0, .ref mq20, .int 0, .int 0, .ref mq21, .ref mq22, .ref mq23, .int 0])), (mq18, .inl (cI, 5, .inl (fun _ => 0))), (xq14, .inr (1, [.ref xq16, .ref xq17, .ref xq18, .int 0, .int 0])), (xh0, .inr (10, [.ref xq1, .ref xq4, .ref xq6, .ref xq9, .ref xq14, .ref xq19, .ref xq20, .ref xq25, .ref xq30, .ref xq33, .ref xq39, .ref xq45, .ref xq47, .int 0, .int (-1), .int 0, .int 0])), (xq47, .inl (cI, 5, .inl (upd (fun _ => 0) 0 1)))] := hD
  have hw : r_5 = (-1) := hw
  subst hw
  refine lv_aload_n hx hb dL_law_653 rfl (lv_at hl 2 rfl) ?_
  refine lv_aload_n hx hb dL_law_654 rfl (lv_at hl 0 rfl) ?_
  refine lv_iload hx hb dL_law_655 (lv_at hl 4 rfl) ?_
  refine lv_iconst (v := 1) hx hb dL_law_657 (by decide) ?_
  refine lv_iadd hx hb dL_law_658 ?_
  refine lv_topi (fun v_6 ev_6 => ?_)
  obtain rfl : v_6 = 1 := ev_6.trans (by decide)
  refine va_sld hx hb hX hbl hbA hS (by unfold vp_in; decide) dL_law_659 ?_
  refine lv_topi (fun v_7 ev_7 => ?_)
  obtain rfl : v_7 = xs 1 := ev_7
  refine lv_aload_n hx hb dL_law_660 rfl (lv_at hl 0 rfl) ?_
  refine lv_iload hx hb dL_law_661 (lv_at hl 4 rfl) ?_
  refine lv_iconst (v := 2) hx hb dL_law_663 (by decide) ?_
  refine lv_iadd hx hb dL_law_664 ?_
  refine lv_topi (fun v_8 ev_8 => ?_)
  obtain rfl : v_8 = 2 := ev_8.trans (by decide)
  refine va_sld hx hb hX hbl hbA hS (by unfold vp_in; decide) dL_law_665 ?_
  refine lv_topi (fun v_9 ev_9 => ?_)
  obtain rfl : v_9 = xs 2 := ev_9
  have hPc := hP.sub (ws' := [(mh0, .inr (11, [.int 0, .ref mq1, .int 0, .int 0, .int 0, .int 0, .ref mq2, .ref mq3, .ref mq4, .ref mq5, .ref mq6, .ref mq7, .ref mq8, .int 0, .int 0, .ref mq9, .ref mq10, .ref mq11, .ref mq12, .ref mq13, .int 0, .int 0, .ref mq14, .ref mq15, .ref mq16, .int 0, .int 0, .ref mq17, .ref mq18, .int (-1), .int 0, .ref mq19, .int 0, .long 0, .ref mq20, .int 0, .int 0, .ref mq21, .ref mq22, .ref mq23, .int 0])), (mq18, .inl (cI, 5, .inl (fun _ => 0)))]) [0, 1] rfl
  have hDc := hD.sub (ws' := [(mh0, .inr (11, [.int 0, .ref mq1, .int 0, .int 0, .int 0, .int 0, .ref mq2, .ref mq3, .ref mq4, .ref mq5, .ref mq6, .ref mq7, .ref mq8, .int 0, .int 0, .ref mq9, .ref mq10, .ref mq11, .ref mq12, .ref mq13, .int 0, .int 0, .ref mq14, .ref mq15, .ref mq16, .int 0, .int 0, .ref mq17, .ref mq18, .int (-1), .int 0, .ref mq19, .int 0, .long 0, .ref mq20, .int 0, .int 0, .ref mq21, .ref mq22, .ref mq23, .int 0])), (mq18, .inl (cI, 5, .inl (fun _ => 0)))]) [0, 1] (by decide) rfl
  have hFc := va_free (wc := [(mh0, .inr (11, [.int 0, .ref mq1, .int 0, .int 0, .int 0, .int 0, .ref mq2, .ref mq3, .ref mq4, .ref mq5, .ref mq6, .ref mq7, .ref mq8, .int 0, .int 0, .ref mq9, .ref mq10, .ref mq11, .ref mq12, .ref mq13, .int 0, .int 0, .ref mq14, .ref mq15, .ref mq16, .int 0, .int 0, .ref mq17, .ref mq18, .int (-1), .int 0, .ref mq19, .int 0, .long 0, .ref mq20, .int 0, .int 0, .ref mq21, .ref mq22, .ref mq23, .int 0])), (mq18, .inl (cI, 5, .inl (fun _ => 0)))]) hD hS hA [0, 1] rfl
  refine va_calli (va_runV (As := [.int (xs 1), .int (xs 2)]) (rest := [.int (-1)]) ⟨hx, hb, hml, hown, hts⟩ (c_X11_paint l dC dI cI cJ mh0 mq1 mq2 mq3 mq4 mq5 mq6 mq7 mq8 mq9 mq10 mq11 mq12 mq13 mq14 mq15 mq16 mq17 mq18 mq19 mq20 mq21 mq22 mq23 H.size (xs 1) (xs 2)) (cwV 2 hts (zgV qw1481 qw1482 qw1483 qw108 qw1484) rfl rfl rfl hd_X11_paint ⟨Nat.le_of_ble_eq_true rfl, Nat.le_of_ble_eq_true rfl⟩) (zPV hPc hK hDc (va_recv hK hP (ci := 11) (q0 := 0) rfl rfl)) rfl rfl hl.1 rfl (lv_room (Nat.le_of_ble_eq_true rfl)) dL_law_666 ⟨Nat.le_of_ble_eq_true rfl, Nat.le_of_ble_eq_true rfl⟩) hS (fun q _ h => hFc q h) hFc (fun r_10 u t H locs ht hvm hw hB hz1 hk1 hS => ?_)
  obtain ⟨hP1, hD1⟩ := hB
  rw [ht] at hP1
  obtain ⟨hP, hD⟩ := va_join (wr := [(xq14, .inr (1, [.ref xq16, .ref xq17, .ref xq18, .int 0, .int 0])), (xh0, .inr (10, [.ref xq1, .ref xq4, .ref xq6, .ref xq9, .ref xq14, .ref xq19, .ref xq20, .ref xq25, .ref xq30, .ref xq33, .ref xq39, .ref xq45, .ref xq47, .int 0, .int (-1), .int 0, .int 0])), (xq47, .inl (cI, 5, .inl (upd (fun _ => 0) 0 1)))]) (w1 := [(mh0, .inr (11, [.int 0, .ref mq1, .int 0, .int 0, .int 0, .int 0, .ref mq2, .ref mq3, .ref mq4, .ref mq5, .ref mq6, .ref mq7, .ref mq8, .int 0, .int 0, .ref mq9, .ref mq10, .ref mq11, .ref mq12, .ref mq13, .int 0, .int 0, .ref mq14, .ref mq15, .ref mq16, .int 0, .int 0, .ref mq17, .ref mq18, .int (-1), .int 0, .ref mq19, .int 0, .long 0, .ref mq20, .int 0, .int 0, .ref mq21, .ref mq22, .ref mq23, .int 0])), (mq18, .inl (cI, 5, .inl (upd (fun _ => 0) 0 1)))]) hP hD [0, 1] [2, 3, 4] rfl rfl (by decide) (by decide) hk1 hFc hP1 hD1
  have hP : va_P (dC, dI) vwCl [(xq14, .inr (1, [.ref xq16, .ref xq17, .ref xq18, .int 0, .int 0])), (xh0, .inr (10, [.ref xq1, .ref xq4, .ref xq6, .ref xq9, .ref xq14, .ref xq19, .ref xq20, .ref xq25, .ref xq30, .ref xq33, .ref xq39, .ref xq45, .ref xq47, .int 0, .int (-1), .int 0, .int 0])), (xq47, .inl (cI, 5, .inl (upd (fun _ => 0) 0 1))), (mh0, .inr (11, [.int 0, .ref mq1, .int 0, .int 0, .int 0, .int 0, .ref mq2, .ref mq3, .ref mq4, .ref mq5, .ref mq6, .ref mq7, .ref mq8, .int 0, .int 0, .ref mq9, .ref mq10, .ref mq11, .ref mq12, .ref mq13, .int 0, .int 0, .ref mq14, .ref mq15, .ref mq16, .int 0, .int 0, .ref mq17, .ref mq18, .int (-1), .int 0, .ref mq19, .int 0, .long 0, .ref mq20, .int 0, .int 0, .ref mq21, .ref mq22, .ref mq23, .int 0])), (mq18, .inl (cI, 5, .inl (upd (fun _ => 0) 0 1)))] H := hP
  have hD : va_D (fun q : Nat => s.heap.size ≤ q) [(xq14, .inr (1, [.ref xq16, .ref xq17, .ref xq18, .int 0, .int 0])), (xh0, .inr (10, [.ref xq1, .ref xq4, .ref xq6, .ref xq9, .ref xq14, .ref xq19, .ref xq20, .ref xq25, .ref xq30, .ref xq33, .ref xq39, .ref xq45, .ref xq47, .int 0, .int (-1), .int 0, .int 0])), (xq47, .inl (cI, 5, .inl (upd (fun _ => 0) 0 1))), (mh0, .inr (11, [.int 0, .ref mq1, .int 0, .int 0, .int 0, .int 0, .ref mq2, .ref mq3, .ref mq4, .ref mq5, .ref mq6, .ref mq7, .ref mq8, .int 0, .int 0, .ref mq9, .ref mq10, .ref mq11, .ref mq12, .ref mq13, .int 0, .int 0, .ref mq14, .ref mq15, .ref mq16, .int 0, .int 0, .ref mq17, .ref mq18, .int (-1), .int 0, .ref mq19, .int 0, .long 0, .ref mq20, .int 0, .int 0, .ref mq21, .ref mq22, .ref mq23, .int 0])), (mq18, .inl (cI, 5, .inl (upd (fun _ => 0) 0 1)))] := hD
  have hw : r_10 = (-1) := hw
  subst hw
  refine lv_icmp_eq (tgt := 1825) hx hb dL_law_669 (by decide) (fun _ => ?_) (fun c => absurd (by decide) c)
  exact law_end C0 hS (lv_sub hl [0, 4] rfl)
set_option maxHeartbeats 4000000 in
set_option maxRecDepth 100000 in
theorem law_case_11 {p : Program} {l : Launch} {e : Env} {s : State} {m : MethodId} {below : List Frame} {meth : Method} {c : Code} {b : Nat} {xs : Nat → Int32} {dC : Nat → ClassId} {dI : Nat → Nat → Nat} {cI cJ : ClassId} {xh0 mh0 o0 xq1 xq4 xq6 xq9 xq14 xq19 xq20 xq25 xq30 xq33 xq39 xq45 xq47 xq16 xq17 xq18 mq1 mq2 mq3 mq4 mq5 mq6 mq7 mq8 mq9 mq10 mq11 mq12 mq13 mq14 mq15 mq16 mq17 mq18 mq19 mq20 mq21 mq22 mq23 g0 : Nat} (hl0 : l.stackTraces = false) (C0 : lw_At p s m meth c b 7 xs) (hK : va_K (dC, dI) vwCl [(cI, .int), (cJ, .long)] s) (hF : zF g0 (fun q : Nat => s.heap.size ≤ q) s) (hG : zG (fun q : Nat => s.heap.size ≤ q) s) {H : Heap} {locs : List Loc} (hP : va_P (dC, dI) vwCl [(xh0, .inr (10, [.ref xq1, .ref xq4, .ref xq6, .ref xq9, .ref xq14, .ref xq19, .ref xq20, .ref xq25, .ref xq30, .ref xq33, .ref xq39, .ref xq45, .ref xq47, .int 0, .int (-1), .int 0, .int 0])), (xq14, .inr (1, [.ref xq16, .ref xq17, .ref xq18, .int 0, .int 0])), (xq47, .inl (cI, 5, .inl (fun _ => 0))), (mh0, .inr (11, [.int 0, .ref mq1, .int 0, .int 0, .int 0, .int 0, .ref mq2, .ref mq3, .ref mq4, .ref mq5, .ref mq6, .ref mq7, .ref mq8, .int 0, .int 0, .ref mq9, .ref mq10, .ref mq11, .ref mq12, .ref mq13, .int 0, .int 0, .ref mq14, .ref mq15, .ref mq16, .int 0, .int 0, .ref mq17, .ref mq18, .int (-1), .int 0, .ref mq19, .int 0, .long 0, .ref mq20, .int 0, .int 0, .ref mq21, .ref mq22, .ref mq23, .int 0])), (mq18, .inl (cI, 5, .inl (fun _ => 0)))] H) (hD : va_D (fun q : Nat => s.heap.size ≤ q) [(xh0, .inr (10, [.ref xq1, .ref xq4, .ref xq6, .ref xq9, .ref xq14, .ref xq19, .ref xq20, .ref xq25, .ref xq30, .ref xq33, .ref xq39, .ref xq45, .ref xq47, .int 0, .int (-1), .int 0, .int 0])), (xq14, .inr (1, [.ref xq16, .ref xq17, .ref xq18, .int 0, .int 0])), (xq47, .inl (cI, 5, .inl (fun _ => 0))), (mh0, .inr (11, [.int 0, .ref mq1, .int 0, .int 0, .int 0, .int 0, .ref mq2, .ref mq3, .ref mq4, .ref mq5, .ref mq6, .ref mq7, .ref mq8, .int 0, .int 0, .ref mq9, .ref mq10, .ref mq11, .ref mq12, .ref mq13, .int 0, .int 0, .ref mq14, .ref mq15, .ref mq16, .int 0, .int 0, .ref mq17, .ref mq18, .int (-1), .int 0, .ref mq19, .int 0, .long 0, .ref mq20, .int 0, .int 0, .ref mq21, .ref mq22, .ref mq23, .int 0])), (mq18, .inl (cI, 5, .inl (fun _ => 0)))]) (hS : va_S (fun q : Nat => s.heap.size ≤ q) s.heap H locs) {ls : Array Slot} (hl : lv_has ls 7 [(0, .ref b), (1, .ref xh0), (2, .ref mh0), (3, .ref o0), (4, .int 0)]) : W p l e room_1 s m #[Value.ref b] below meth c H locs 62 13545 (lw_Z below #[Value.ref b] s) (F0 m 674 ls []) := by
  obtain ⟨hx, hb, hr, hml, hown, hts0, hX, hbl, hlocks, hgv⟩ := id C0
  have hts : ∀ w ∈ wA, w.before #[Value.ref b] s = true := fun w h => hts0 w (List.mem_filter.mp h).1
  have hown : s.vm.findClass RL = some m.cls := hown
  have hA : ∀ q : Nat, s.heap.size ≤ q → (fun q : Nat => s.heap.size ≤ q) q := fun _ h => h
  have hbA : ¬ (fun q : Nat => s.heap.size ≤ q) b := Nat.not_le.mpr hbl
  refine lv_aload_n hx hb dL_law_674 rfl (lv_at hl 1 rfl) ?_
  refine lv_aload_n hx hb dL_law_675 rfl (lv_at hl 0 rfl) ?_
  refine lv_iload hx hb dL_law_676 (lv_at hl 4 rfl) ?_
  refine lv_iconst (v := 1) hx hb dL_law_678 (by decide) ?_
  refine lv_iadd hx hb dL_law_679 ?_
  refine lv_topi (fun v_1 ev_1 => ?_)
  obtain rfl : v_1 = 1 := ev_1.trans (by decide)
  refine va_sld hx hb hX hbl hbA hS (by unfold vp_in; decide) dL_law_680 ?_
  refine lv_topi (fun v_2 ev_2 => ?_)
  obtain rfl : v_2 = xs 1 := ev_2
  refine lv_aload_n hx hb dL_law_681 rfl (lv_at hl 0 rfl) ?_
  refine lv_iload hx hb dL_law_682 (lv_at hl 4 rfl) ?_
  refine lv_iconst (v := 2) hx hb dL_law_684 (by decide) ?_
  refine lv_iadd hx hb dL_law_685 ?_
  refine lv_topi (fun v_3 ev_3 => ?_)
  obtain rfl : v_3 = 2 := ev_3.trans (by decide)
  refine va_sld hx hb hX hbl hbA hS (by unfold vp_in; decide) dL_law_686 ?_
  refine lv_topi (fun v_4 ev_4 => ?_)
  obtain rfl : v_4 = xs 2 := ev_4
  have hPc := hP.sub (ws' := [(xh0, .inr (10, [.ref xq1, .ref xq4, .ref xq6, .ref xq9, .ref xq14, .ref xq19, .ref xq20, .ref xq25, .ref xq30, .ref xq33, .ref xq39, .ref xq45, .ref xq47, .int 0, .int (-1), .int 0, .int 0])), (xq14, .inr (1, [.ref xq16, .ref xq17, .ref xq18, .int 0, .int 0])), (xq47, .inl (cI, 5, .inl (fun _ => 0)))]) [0, 1, 2] rfl
  have hDc := hD.sub (ws' := [(xh0, .inr (10, [.ref xq1, .ref xq4, .ref xq6, .ref xq9, .ref xq14, .ref xq19, .ref xq20, .ref xq25, .ref xq30, .ref xq33, .ref xq39, .ref xq45, .ref xq47, .int 0, .int (-1), .int 0, .int 0])), (xq14, .inr (1, [.ref xq16, .ref xq17, .ref xq18, .int 0, .int 0])), (xq47, .inl (cI, 5, .inl (fun _ => 0)))]) [0, 1, 2] (by decide) rfl
  have hFc := va_free (wc := [(xh0, .inr (10, [.ref xq1, .ref xq4, .ref xq6, .ref xq9, .ref xq14, .ref xq19, .ref xq20, .ref xq25, .ref xq30, .ref xq33, .ref xq39, .ref xq45, .ref xq47, .int 0, .int (-1), .int 0, .int 0])), (xq14, .inr (1, [.ref xq16, .ref xq17, .ref xq18, .int 0, .int 0])), (xq47, .inl (cI, 5, .inl (fun _ => 0)))]) hD hS hA [0, 1, 2] rfl
  refine va_calli (va_runV (As := [.int (xs 1), .int (xs 2)]) (rest := []) ⟨hx, hb, hml, hown, hts⟩ (c_X10_pay l dC dI cI cJ xh0 xq1 xq4 xq6 xq9 xq14 xq19 xq20 xq25 xq30 xq33 xq39 xq45 xq47 xq16 xq17 xq18 H.size (xs 1) (xs 2)) (cwV 2 hts (zgV qw710 qw711 qw712 qw98 qw713) rfl rfl rfl hd_X10_pay ⟨Nat.le_of_ble_eq_true rfl, Nat.le_of_ble_eq_true rfl⟩) (zPV hPc hK hDc (va_recv hK hP (ci := 10) (q0 := 0) rfl rfl)) rfl rfl hl.1 rfl (lv_room (Nat.le_of_ble_eq_true rfl)) dL_law_687 ⟨Nat.le_of_ble_eq_true rfl, Nat.le_of_ble_eq_true rfl⟩) hS (fun q _ h => hFc q h) hFc (fun r_5 u t H locs ht hvm hw hB hz1 hk1 hS => ?_)
  obtain ⟨hP1, hD1⟩ := hB
  rw [ht] at hP1
  obtain ⟨hP, hD⟩ := va_join (wr := [(mh0, .inr (11, [.int 0, .ref mq1, .int 0, .int 0, .int 0, .int 0, .ref mq2, .ref mq3, .ref mq4, .ref mq5, .ref mq6, .ref mq7, .ref mq8, .int 0, .int 0, .ref mq9, .ref mq10, .ref mq11, .ref mq12, .ref mq13, .int 0, .int 0, .ref mq14, .ref mq15, .ref mq16, .int 0, .int 0, .ref mq17, .ref mq18, .int (-1), .int 0, .ref mq19, .int 0, .long 0, .ref mq20, .int 0, .int 0, .ref mq21, .ref mq22, .ref mq23, .int 0])), (mq18, .inl (cI, 5, .inl (fun _ => 0)))]) (w1 := [(xq14, .inr (1, [.ref xq16, .ref xq17, .ref xq18, .int 0, .int 0])), (xh0, .inr (10, [.ref xq1, .ref xq4, .ref xq6, .ref xq9, .ref xq14, .ref xq19, .ref xq20, .ref xq25, .ref xq30, .ref xq33, .ref xq39, .ref xq45, .ref xq47, .int 0, .int (-1), .int 0, .int 0])), (xq47, .inl (cI, 5, .inl (upd (fun _ => 0) 0 1)))]) hP hD [0, 1, 2] [3, 4] rfl rfl (by decide) (by decide) hk1 hFc hP1 hD1
  have hP : va_P (dC, dI) vwCl [(mh0, .inr (11, [.int 0, .ref mq1, .int 0, .int 0, .int 0, .int 0, .ref mq2, .ref mq3, .ref mq4, .ref mq5, .ref mq6, .ref mq7, .ref mq8, .int 0, .int 0, .ref mq9, .ref mq10, .ref mq11, .ref mq12, .ref mq13, .int 0, .int 0, .ref mq14, .ref mq15, .ref mq16, .int 0, .int 0, .ref mq17, .ref mq18, .int (-1), .int 0, .ref mq19, .int 0, .long 0, .ref mq20, .int 0, .int 0, .ref mq21, .ref mq22, .ref mq23, .int 0])), (mq18, .inl (cI, 5, .inl (fun _ => 0))), (xq14, .inr (1, [.ref xq16, .ref xq17, .ref xq18, .int 0, .int 0])), (xh0, .inr (10, [.ref xq1, .ref xq4, .ref xq6, .ref xq9, .ref xq14, .ref xq19, .ref xq20, .ref xq25, .ref xq30, .ref xq33, .ref xq39, .ref xq45, .ref xq47, .int 0, .int (-1), .int 0, .int 0])), (xq47, .inl (cI, 5, .inl (upd (fun _ => 0) 0 1)))] H := hP
  have hD : va_D (fun q : Nat => s.heap.size ≤ q) [(mh0, .inr (11, [.int 0, .ref mq1, .int 0, .int 0, .int 0, .int 0, .ref mq2, .ref mq3, .ref mq4, .ref mq5, .ref mq6, .ref mq7, .ref mq8, .int 0, .int 0, .ref mq9, .ref mq10, .ref mq11, .ref mq12, .ref mq13, .int 0, .int 0, .ref mq14, .ref mq15, .ref mq16, .int 0, .int 0, .ref mq17, .ref mq18, .int (-1), .int 0, .ref mq19, .int 0, .long 0, .ref mq20, .int 0, .int 0, .ref mq21, .ref mq22, .ref mq23, .int 0])), (mq18, .inl (cI, 5, .inl (fun _ => 0))), (xq14, .inr (1, [.ref xq16, .ref xq17, .ref xq18, .int 0, .int 0])), (xh0, .inr (10, [.ref xq1, .ref xq4, .ref xq6, .ref xq9, .ref xq14, .ref xq19, .ref xq20, .ref xq25, .ref xq30, .ref xq33, .ref xq39, .ref xq45, .ref xq47, .int 0, .int (-1), .int 0, .int 0])), (xq47, .inl (cI, 5, .inl (upd (fun _ => 0) 0 1)))] := hD
  have hw : r_5 = (-1) := hw
  subst hw
  refine lv_aload_n hx hb dL_law_690 rfl (lv_at hl 2 rfl) ?_
  refine lv_aload_n hx hb dL_law_691 rfl (lv_at hl 0 rfl) ?_
  refine lv_iload hx hb dL_law_692 (lv_at hl 4 rfl) ?_
  refine lv_iconst (v := 1) hx hb dL_law_694 (by decide) ?_
  refine lv_iadd hx hb dL_law_695 ?_
  refine lv_topi (fun v_6 ev_6 => ?_)
  obtain rfl : v_6 = 1 := ev_6.trans (by decide)
  refine va_sld hx hb hX hbl hbA hS (by unfold vp_in; decide) dL_law_696 ?_
  refine lv_topi (fun v_7 ev_7 => ?_)
  obtain rfl : v_7 = xs 1 := ev_7
  refine lv_aload_n hx hb dL_law_697 rfl (lv_at hl 0 rfl) ?_
  refine lv_iload hx hb dL_law_698 (lv_at hl 4 rfl) ?_
  refine lv_iconst (v := 2) hx hb dL_law_700 (by decide) ?_
  refine lv_iadd hx hb dL_law_701 ?_
  refine lv_topi (fun v_8 ev_8 => ?_)
  obtain rfl : v_8 = 2 := ev_8.trans (by decide)
  refine va_sld hx hb hX hbl hbA hS (by unfold vp_in; decide) dL_law_702 ?_
  refine lv_topi (fun v_9 ev_9 => ?_)
  obtain rfl : v_9 = xs 2 := ev_9
  have hPc := hP.sub (ws' := [(mh0, .inr (11, [.int 0, .ref mq1, .int 0, .int 0, .int 0, .int 0, .ref mq2, .ref mq3, .ref mq4, .ref mq5, .ref mq6, .ref mq7, .ref mq8, .int 0, .int 0, .ref mq9, .ref mq10, .ref mq11, .ref mq12, .ref mq13, .int 0, .int 0, .ref mq14, .ref mq15, .ref mq16, .int 0, .int 0, .ref mq17, .ref mq18, .int (-1), .int 0, .ref mq19, .int 0, .long 0, .ref mq20, .int 0, .int 0, .ref mq21, .ref mq22, .ref mq23, .int 0])), (mq18, .inl (cI, 5, .inl (fun _ => 0)))]) [0, 1] rfl
  have hDc := hD.sub (ws' := [(mh0, .inr (11, [.int 0, .ref mq1, .int 0, .int 0, .int 0, .int 0, .ref mq2, .ref mq3, .ref mq4, .ref mq5, .ref mq6, .ref mq7, .ref mq8, .int 0, .int 0, .ref mq9, .ref mq10, .ref mq11, .ref mq12, .ref mq13, .int 0, .int 0, .ref mq14, .ref mq15, .ref mq16, .int 0, .int 0, .ref mq17, .ref mq18, .int (-1), .int 0, .ref mq19, .int 0, .long 0, .ref mq20, .int 0, .int 0, .ref mq21, .ref mq22, .ref mq23, .int 0])), (mq18, .inl (cI, 5, .inl (fun _ => 0)))]) [0, 1] (by decide) rfl
  have hFc := va_free (wc := [(mh0, .inr (11, [.int 0, .ref mq1, .int 0, .int 0, .int 0, .int 0, .ref mq2, .ref mq3, .ref mq4, .ref mq5, .ref mq6, .ref mq7, .ref mq8, .int 0, .int 0, .ref mq9, .ref mq10, .ref mq11, .ref mq12, .ref mq13, .int 0, .int 0, .ref mq14, .ref mq15, .ref mq16, .int 0, .int 0, .ref mq17, .ref mq18, .int (-1), .int 0, .ref mq19, .int 0, .long 0, .ref mq20, .int 0, .int 0, .ref mq21, .ref mq22, .ref mq23, .int 0])), (mq18, .inl (cI, 5, .inl (fun _ => 0)))]) hD hS hA [0, 1] rfl
  refine va_calli (va_runV (As := [.int (xs 1), .int (xs 2)]) (rest := [.int (-1)]) ⟨hx, hb, hml, hown, hts⟩ (c_X11_pay l dC dI cI cJ mh0 mq1 mq2 mq3 mq4 mq5 mq6 mq7 mq8 mq9 mq10 mq11 mq12 mq13 mq14 mq15 mq16 mq17 mq18 mq19 mq20 mq21 mq22 mq23 H.size (xs 1) (xs 2)) (cwV 2 hts (zgV qw1497 qw1498 qw1499 qw108 qw1500) rfl rfl rfl hd_X11_pay ⟨Nat.le_of_ble_eq_true rfl, Nat.le_of_ble_eq_true rfl⟩) (zPV hPc hK hDc (va_recv hK hP (ci := 11) (q0 := 0) rfl rfl)) rfl rfl hl.1 rfl (lv_room (Nat.le_of_ble_eq_true rfl)) dL_law_703 ⟨Nat.le_of_ble_eq_true rfl, Nat.le_of_ble_eq_true rfl⟩) hS (fun q _ h => hFc q h) hFc (fun r_10 u t H locs ht hvm hw hB hz1 hk1 hS => ?_)
  obtain ⟨hP1, hD1⟩ := hB
  rw [ht] at hP1
  obtain ⟨hP, hD⟩ := va_join (wr := [(xq14, .inr (1, [.ref xq16, .ref xq17, .ref xq18, .int 0, .int 0])), (xh0, .inr (10, [.ref xq1, .ref xq4, .ref xq6, .ref xq9, .ref xq14, .ref xq19, .ref xq20, .ref xq25, .ref xq30, .ref xq33, .ref xq39, .ref xq45, .ref xq47, .int 0, .int (-1), .int 0, .int 0])), (xq47, .inl (cI, 5, .inl (upd (fun _ => 0) 0 1)))]) (w1 := [(mh0, .inr (11, [.int 0, .ref mq1, .int 0, .int 0, .int 0, .int 0, .ref mq2, .ref mq3, .ref mq4, .ref mq5, .ref mq6, .ref mq7, .ref mq8, .int 0, .int 0, .ref mq9, .ref mq10, .ref mq11, .ref mq12, .ref mq13, .int 0, .int 0, .ref mq14, .ref mq15, .ref mq16, .int 0, .int 0, .ref mq17, .ref mq18, .int (-1), .int 0, .ref mq19, .int 0, .long 0, .ref mq20, .int 0, .int 0, .ref mq21, .ref mq22, .ref mq23, .int 0])), (mq18, .inl (cI, 5, .inl (upd (fun _ => 0) 0 1)))]) hP hD [0, 1] [2, 3, 4] rfl rfl (by decide) (by decide) hk1 hFc hP1 hD1
  have hP : va_P (dC, dI) vwCl [(xq14, .inr (1, [.ref xq16, .ref xq17, .ref xq18, .int 0, .int 0])), (xh0, .inr (10, [.ref xq1, .ref xq4, .ref xq6, .ref xq9, .ref xq14, .ref xq19, .ref xq20, .ref xq25, .ref xq30, .ref xq33, .ref xq39, .ref xq45, .ref xq47, .int 0, .int (-1), .int 0, .int 0])), (xq47, .inl (cI, 5, .inl (upd (fun _ => 0) 0 1))), (mh0, .inr (11, [.int 0, .ref mq1, .int 0, .int 0, .int 0, .int 0, .ref mq2, .ref mq3, .ref mq4, .ref mq5, .ref mq6, .ref mq7, .ref mq8, .int 0, .int 0, .ref mq9, .ref mq10, .ref mq11, .ref mq12, .ref mq13, .int 0, .int 0, .ref mq14, .ref mq15, .ref mq16, .int 0, .int 0, .ref mq17, .ref mq18, .int (-1), .int 0, .ref mq19, .int 0, .long 0, .ref mq20, .int 0, .int 0, .ref mq21, .ref mq22, .ref mq23, .int 0])), (mq18, .inl (cI, 5, .inl (upd (fun _ => 0) 0 1)))] H := hP
  have hD : va_D (fun q : Nat => s.heap.size ≤ q) [(xq14, .inr (1, [.ref xq16, .ref xq17, .ref xq18, .int 0, .int 0])), (xh0, .inr (10, [.ref xq1, .ref xq4, .ref xq6, .ref xq9, .ref xq14, .ref xq19, .ref xq20, .ref xq25, .ref xq30, .ref xq33, .ref xq39, .ref xq45, .ref xq47, .int 0, .int (-1), .int 0, .int 0])), (xq47, .inl (cI, 5, .inl (upd (fun _ => 0) 0 1))), (mh0, .inr (11, [.int 0, .ref mq1, .int 0, .int 0, .int 0, .int 0, .ref mq2, .ref mq3, .ref mq4, .ref mq5, .ref mq6, .ref mq7, .ref mq8, .int 0, .int 0, .ref mq9, .ref mq10, .ref mq11, .ref mq12, .ref mq13, .int 0, .int 0, .ref mq14, .ref mq15, .ref mq16, .int 0, .int 0, .ref mq17, .ref mq18, .int (-1), .int 0, .ref mq19, .int 0, .long 0, .ref mq20, .int 0, .int 0, .ref mq21, .ref mq22, .ref mq23, .int 0])), (mq18, .inl (cI, 5, .inl (upd (fun _ => 0) 0 1)))] := hD
  have hw : r_10 = (-1) := hw
  subst hw
  refine lv_icmp_eq (tgt := 1825) hx hb dL_law_706 (by decide) (fun _ => ?_) (fun c => absurd (by decide) c)
  exact law_end C0 hS (lv_sub hl [0, 4] rfl)
set_option maxHeartbeats 4000000 in
set_option maxRecDepth 100000 in
theorem law_case_12 {p : Program} {l : Launch} {e : Env} {s : State} {m : MethodId} {below : List Frame} {meth : Method} {c : Code} {b : Nat} {xs : Nat → Int32} {dC : Nat → ClassId} {dI : Nat → Nat → Nat} {cI cJ : ClassId} {xh0 mh0 o0 xq1 xq4 xq6 xq9 xq14 xq19 xq20 xq25 xq30 xq33 xq39 xq45 xq47 xq16 xq17 xq18 mq1 mq2 mq3 mq4 mq5 mq6 mq7 mq8 mq9 mq10 mq11 mq12 mq13 mq14 mq15 mq16 mq17 mq18 mq19 mq20 mq21 mq22 mq23 g0 : Nat} (hl0 : l.stackTraces = false) (C0 : lw_At p s m meth c b 7 xs) (hK : va_K (dC, dI) vwCl [(cI, .int), (cJ, .long)] s) (hF : zF g0 (fun q : Nat => s.heap.size ≤ q) s) (hG : zG (fun q : Nat => s.heap.size ≤ q) s) {H : Heap} {locs : List Loc} (hP : va_P (dC, dI) vwCl [(xh0, .inr (10, [.ref xq1, .ref xq4, .ref xq6, .ref xq9, .ref xq14, .ref xq19, .ref xq20, .ref xq25, .ref xq30, .ref xq33, .ref xq39, .ref xq45, .ref xq47, .int 0, .int (-1), .int 0, .int 0])), (xq14, .inr (1, [.ref xq16, .ref xq17, .ref xq18, .int 0, .int 0])), (xq47, .inl (cI, 5, .inl (fun _ => 0))), (mh0, .inr (11, [.int 0, .ref mq1, .int 0, .int 0, .int 0, .int 0, .ref mq2, .ref mq3, .ref mq4, .ref mq5, .ref mq6, .ref mq7, .ref mq8, .int 0, .int 0, .ref mq9, .ref mq10, .ref mq11, .ref mq12, .ref mq13, .int 0, .int 0, .ref mq14, .ref mq15, .ref mq16, .int 0, .int 0, .ref mq17, .ref mq18, .int (-1), .int 0, .ref mq19, .int 0, .long 0, .ref mq20, .int 0, .int 0, .ref mq21, .ref mq22, .ref mq23, .int 0])), (mq18, .inl (cI, 5, .inl (fun _ => 0)))] H) (hD : va_D (fun q : Nat => s.heap.size ≤ q) [(xh0, .inr (10, [.ref xq1, .ref xq4, .ref xq6, .ref xq9, .ref xq14, .ref xq19, .ref xq20, .ref xq25, .ref xq30, .ref xq33, .ref xq39, .ref xq45, .ref xq47, .int 0, .int (-1), .int 0, .int 0])), (xq14, .inr (1, [.ref xq16, .ref xq17, .ref xq18, .int 0, .int 0])), (xq47, .inl (cI, 5, .inl (fun _ => 0))), (mh0, .inr (11, [.int 0, .ref mq1, .int 0, .int 0, .int 0, .int 0, .ref mq2, .ref mq3, .ref mq4, .ref mq5, .ref mq6, .ref mq7, .ref mq8, .int 0, .int 0, .ref mq9, .ref mq10, .ref mq11, .ref mq12, .ref mq13, .int 0, .int 0, .ref mq14, .ref mq15, .ref mq16, .int 0, .int 0, .ref mq17, .ref mq18, .int (-1), .int 0, .ref mq19, .int 0, .long 0, .ref mq20, .int 0, .int 0, .ref mq21, .ref mq22, .ref mq23, .int 0])), (mq18, .inl (cI, 5, .inl (fun _ => 0)))]) (hS : va_S (fun q : Nat => s.heap.size ≤ q) s.heap H locs) {ls : Array Slot} (hl : lv_has ls 7 [(0, .ref b), (1, .ref xh0), (2, .ref mh0), (3, .ref o0), (4, .int 0)]) : W p l e room_1 s m #[Value.ref b] below meth c H locs 62 13545 (lw_Z below #[Value.ref b] s) (F0 m 711 ls []) := by
  obtain ⟨hx, hb, hr, hml, hown, hts0, hX, hbl, hlocks, hgv⟩ := id C0
  have hts : ∀ w ∈ wA, w.before #[Value.ref b] s = true := fun w h => hts0 w (List.mem_filter.mp h).1
  have hown : s.vm.findClass RL = some m.cls := hown
  have hA : ∀ q : Nat, s.heap.size ≤ q → (fun q : Nat => s.heap.size ≤ q) q := fun _ h => h
  have hbA : ¬ (fun q : Nat => s.heap.size ≤ q) b := Nat.not_le.mpr hbl
  refine lv_aload_n hx hb dL_law_711 rfl (lv_at hl 1 rfl) ?_
  refine lv_aload_n hx hb dL_law_712 rfl (lv_at hl 0 rfl) ?_
  refine lv_iload hx hb dL_law_713 (lv_at hl 4 rfl) ?_
  refine lv_iconst (v := 1) hx hb dL_law_715 (by decide) ?_
  refine lv_iadd hx hb dL_law_716 ?_
  refine lv_topi (fun v_1 ev_1 => ?_)
  obtain rfl : v_1 = 1 := ev_1.trans (by decide)
  refine va_sld hx hb hX hbl hbA hS (by unfold vp_in; decide) dL_law_717 ?_
  refine lv_topi (fun v_2 ev_2 => ?_)
  obtain rfl : v_2 = xs 1 := ev_2
  have hPc := hP.sub (ws' := [(xh0, .inr (10, [.ref xq1, .ref xq4, .ref xq6, .ref xq9, .ref xq14, .ref xq19, .ref xq20, .ref xq25, .ref xq30, .ref xq33, .ref xq39, .ref xq45, .ref xq47, .int 0, .int (-1), .int 0, .int 0])), (xq14, .inr (1, [.ref xq16, .ref xq17, .ref xq18, .int 0, .int 0])), (xq47, .inl (cI, 5, .inl (fun _ => 0)))]) [0, 1, 2] rfl
  have hDc := hD.sub (ws' := [(xh0, .inr (10, [.ref xq1, .ref xq4, .ref xq6, .ref xq9, .ref xq14, .ref xq19, .ref xq20, .ref xq25, .ref xq30, .ref xq33, .ref xq39, .ref xq45, .ref xq47, .int 0, .int (-1), .int 0, .int 0])), (xq14, .inr (1, [.ref xq16, .ref xq17, .ref xq18, .int 0, .int 0])), (xq47, .inl (cI, 5, .inl (fun _ => 0)))]) [0, 1, 2] (by decide) rfl
  have hFc := va_free (wc := [(xh0, .inr (10, [.ref xq1, .ref xq4, .ref xq6, .ref xq9, .ref xq14, .ref xq19, .ref xq20, .ref xq25, .ref xq30, .ref xq33, .ref xq39, .ref xq45, .ref xq47, .int 0, .int (-1), .int 0, .int 0])), (xq14, .inr (1, [.ref xq16, .ref xq17, .ref xq18, .int 0, .int 0])), (xq47, .inl (cI, 5, .inl (fun _ => 0)))]) hD hS hA [0, 1, 2] rfl
  refine va_calli (va_runV (As := [.int (xs 1)]) (rest := []) ⟨hx, hb, hml, hown, hts⟩ (c_X10_threaten l dC dI cI cJ xh0 xq1 xq4 xq6 xq9 xq14 xq19 xq20 xq25 xq30 xq33 xq39 xq45 xq47 xq16 xq17 xq18 H.size (xs 1)) (cwV 1 hts (zgV qw717 qw718 qw719 qw98 qw720) rfl rfl rfl hd_X10_threaten ⟨Nat.le_of_ble_eq_true rfl, Nat.le_of_ble_eq_true rfl⟩) (zPV hPc hK hDc (va_recv hK hP (ci := 10) (q0 := 0) rfl rfl)) rfl rfl hl.1 rfl (lv_room (Nat.le_of_ble_eq_true rfl)) dL_law_718 ⟨Nat.le_of_ble_eq_true rfl, Nat.le_of_ble_eq_true rfl⟩) hS (fun q _ h => hFc q h) hFc (fun r_3 u t H locs ht hvm hw hB hz1 hk1 hS => ?_)
  obtain ⟨hP1, hD1⟩ := hB
  rw [ht] at hP1
  obtain ⟨hP, hD⟩ := va_join (wr := [(mh0, .inr (11, [.int 0, .ref mq1, .int 0, .int 0, .int 0, .int 0, .ref mq2, .ref mq3, .ref mq4, .ref mq5, .ref mq6, .ref mq7, .ref mq8, .int 0, .int 0, .ref mq9, .ref mq10, .ref mq11, .ref mq12, .ref mq13, .int 0, .int 0, .ref mq14, .ref mq15, .ref mq16, .int 0, .int 0, .ref mq17, .ref mq18, .int (-1), .int 0, .ref mq19, .int 0, .long 0, .ref mq20, .int 0, .int 0, .ref mq21, .ref mq22, .ref mq23, .int 0])), (mq18, .inl (cI, 5, .inl (fun _ => 0)))]) (w1 := [(xq14, .inr (1, [.ref xq16, .ref xq17, .ref xq18, .int 0, .int 0])), (xh0, .inr (10, [.ref xq1, .ref xq4, .ref xq6, .ref xq9, .ref xq14, .ref xq19, .ref xq20, .ref xq25, .ref xq30, .ref xq33, .ref xq39, .ref xq45, .ref xq47, .int 0, .int (-1), .int 0, .int 0])), (xq47, .inl (cI, 5, .inl (upd (fun _ => 0) 0 1)))]) hP hD [0, 1, 2] [3, 4] rfl rfl (by decide) (by decide) hk1 hFc hP1 hD1
  have hP : va_P (dC, dI) vwCl [(mh0, .inr (11, [.int 0, .ref mq1, .int 0, .int 0, .int 0, .int 0, .ref mq2, .ref mq3, .ref mq4, .ref mq5, .ref mq6, .ref mq7, .ref mq8, .int 0, .int 0, .ref mq9, .ref mq10, .ref mq11, .ref mq12, .ref mq13, .int 0, .int 0, .ref mq14, .ref mq15, .ref mq16, .int 0, .int 0, .ref mq17, .ref mq18, .int (-1), .int 0, .ref mq19, .int 0, .long 0, .ref mq20, .int 0, .int 0, .ref mq21, .ref mq22, .ref mq23, .int 0])), (mq18, .inl (cI, 5, .inl (fun _ => 0))), (xq14, .inr (1, [.ref xq16, .ref xq17, .ref xq18, .int 0, .int 0])), (xh0, .inr (10, [.ref xq1, .ref xq4, .ref xq6, .ref xq9, .ref xq14, .ref xq19, .ref xq20, .ref xq25, .ref xq30, .ref xq33, .ref xq39, .ref xq45, .ref xq47, .int 0, .int (-1), .int 0, .int 0])), (xq47, .inl (cI, 5, .inl (upd (fun _ => 0) 0 1)))] H := hP
  have hD : va_D (fun q : Nat => s.heap.size ≤ q) [(mh0, .inr (11, [.int 0, .ref mq1, .int 0, .int 0, .int 0, .int 0, .ref mq2, .ref mq3, .ref mq4, .ref mq5, .ref mq6, .ref mq7, .ref mq8, .int 0, .int 0, .ref mq9, .ref mq10, .ref mq11, .ref mq12, .ref mq13, .int 0, .int 0, .ref mq14, .ref mq15, .ref mq16, .int 0, .int 0, .ref mq17, .ref mq18, .int (-1), .int 0, .ref mq19, .int 0, .long 0, .ref mq20, .int 0, .int 0, .ref mq21, .ref mq22, .ref mq23, .int 0])), (mq18, .inl (cI, 5, .inl (fun _ => 0))), (xq14, .inr (1, [.ref xq16, .ref xq17, .ref xq18, .int 0, .int 0])), (xh0, .inr (10, [.ref xq1, .ref xq4, .ref xq6, .ref xq9, .ref xq14, .ref xq19, .ref xq20, .ref xq25, .ref xq30, .ref xq33, .ref xq39, .ref xq45, .ref xq47, .int 0, .int (-1), .int 0, .int 0])), (xq47, .inl (cI, 5, .inl (upd (fun _ => 0) 0 1)))] := hD
  have hw : r_3 = (-1) := hw
  subst hw
  refine lv_aload_n hx hb dL_law_721 rfl (lv_at hl 2 rfl) ?_
  refine lv_aload_n hx hb dL_law_722 rfl (lv_at hl 0 rfl) ?_
  refine lv_iload hx hb dL_law_723 (lv_at hl 4 rfl) ?_
  refine lv_iconst (v := 1) hx hb dL_law_725 (by decide) ?_
  refine lv_iadd hx hb dL_law_726 ?_
  refine lv_topi (fun v_4 ev_4 => ?_)
  obtain rfl : v_4 = 1 := ev_4.trans (by decide)
  refine va_sld hx hb hX hbl hbA hS (by unfold vp_in; decide) dL_law_727 ?_
  refine lv_topi (fun v_5 ev_5 => ?_)
  obtain rfl : v_5 = xs 1 := ev_5
  have hPc := hP.sub (ws' := [(mh0, .inr (11, [.int 0, .ref mq1, .int 0, .int 0, .int 0, .int 0, .ref mq2, .ref mq3, .ref mq4, .ref mq5, .ref mq6, .ref mq7, .ref mq8, .int 0, .int 0, .ref mq9, .ref mq10, .ref mq11, .ref mq12, .ref mq13, .int 0, .int 0, .ref mq14, .ref mq15, .ref mq16, .int 0, .int 0, .ref mq17, .ref mq18, .int (-1), .int 0, .ref mq19, .int 0, .long 0, .ref mq20, .int 0, .int 0, .ref mq21, .ref mq22, .ref mq23, .int 0])), (mq18, .inl (cI, 5, .inl (fun _ => 0)))]) [0, 1] rfl
  have hDc := hD.sub (ws' := [(mh0, .inr (11, [.int 0, .ref mq1, .int 0, .int 0, .int 0, .int 0, .ref mq2, .ref mq3, .ref mq4, .ref mq5, .ref mq6, .ref mq7, .ref mq8, .int 0, .int 0, .ref mq9, .ref mq10, .ref mq11, .ref mq12, .ref mq13, .int 0, .int 0, .ref mq14, .ref mq15, .ref mq16, .int 0, .int 0, .ref mq17, .ref mq18, .int (-1), .int 0, .ref mq19, .int 0, .long 0, .ref mq20, .int 0, .int 0, .ref mq21, .ref mq22, .ref mq23, .int 0])), (mq18, .inl (cI, 5, .inl (fun _ => 0)))]) [0, 1] (by decide) rfl
  have hFc := va_free (wc := [(mh0, .inr (11, [.int 0, .ref mq1, .int 0, .int 0, .int 0, .int 0, .ref mq2, .ref mq3, .ref mq4, .ref mq5, .ref mq6, .ref mq7, .ref mq8, .int 0, .int 0, .ref mq9, .ref mq10, .ref mq11, .ref mq12, .ref mq13, .int 0, .int 0, .ref mq14, .ref mq15, .ref mq16, .int 0, .int 0, .ref mq17, .ref mq18, .int (-1), .int 0, .ref mq19, .int 0, .long 0, .ref mq20, .int 0, .int 0, .ref mq21, .ref mq22, .ref mq23, .int 0])), (mq18, .inl (cI, 5, .inl (fun _ => 0)))]) hD hS hA [0, 1] rfl
  refine va_calli (va_runV (As := [.int (xs 1)]) (rest := [.int (-1)]) ⟨hx, hb, hml, hown, hts⟩ (c_X11_threaten l dC dI cI cJ mh0 mq1 mq2 mq3 mq4 mq5 mq6 mq7 mq8 mq9 mq10 mq11 mq12 mq13 mq14 mq15 mq16 mq17 mq18 mq19 mq20 mq21 mq22 mq23 H.size (xs 1)) (cwV 1 hts (zgV qw1501 qw1502 qw1503 qw108 qw1504) rfl rfl rfl hd_X11_threaten ⟨Nat.le_of_ble_eq_true rfl, Nat.le_of_ble_eq_true rfl⟩) (zPV hPc hK hDc (va_recv hK hP (ci := 11) (q0 := 0) rfl rfl)) rfl rfl hl.1 rfl (lv_room (Nat.le_of_ble_eq_true rfl)) dL_law_728 ⟨Nat.le_of_ble_eq_true rfl, Nat.le_of_ble_eq_true rfl⟩) hS (fun q _ h => hFc q h) hFc (fun r_6 u t H locs ht hvm hw hB hz1 hk1 hS => ?_)
  obtain ⟨hP1, hD1⟩ := hB
  rw [ht] at hP1
  obtain ⟨hP, hD⟩ := va_join (wr := [(xq14, .inr (1, [.ref xq16, .ref xq17, .ref xq18, .int 0, .int 0])), (xh0, .inr (10, [.ref xq1, .ref xq4, .ref xq6, .ref xq9, .ref xq14, .ref xq19, .ref xq20, .ref xq25, .ref xq30, .ref xq33, .ref xq39, .ref xq45, .ref xq47, .int 0, .int (-1), .int 0, .int 0])), (xq47, .inl (cI, 5, .inl (upd (fun _ => 0) 0 1)))]) (w1 := [(mh0, .inr (11, [.int 0, .ref mq1, .int 0, .int 0, .int 0, .int 0, .ref mq2, .ref mq3, .ref mq4, .ref mq5, .ref mq6, .ref mq7, .ref mq8, .int 0, .int 0, .ref mq9, .ref mq10, .ref mq11, .ref mq12, .ref mq13, .int 0, .int 0, .ref mq14, .ref mq15, .ref mq16, .int 0, .int 0, .ref mq17, .ref mq18, .int (-1), .int 0, .ref mq19, .int 0, .long 0, .ref mq20, .int 0, .int 0, .ref mq21, .ref mq22, .ref mq23, .int 0])), (mq18, .inl (cI, 5, .inl (upd (fun _ => 0) 0 1)))]) hP hD [0, 1] [2, 3, 4] rfl rfl (by decide) (by decide) hk1 hFc hP1 hD1
  have hP : va_P (dC, dI) vwCl [(xq14, .inr (1, [.ref xq16, .ref xq17, .ref xq18, .int 0, .int 0])), (xh0, .inr (10, [.ref xq1, .ref xq4, .ref xq6, .ref xq9, .ref xq14, .ref xq19, .ref xq20, .ref xq25, .ref xq30, .ref xq33, .ref xq39, .ref xq45, .ref xq47, .int 0, .int (-1), .int 0, .int 0])), (xq47, .inl (cI, 5, .inl (upd (fun _ => 0) 0 1))), (mh0, .inr (11, [.int 0, .ref mq1, .int 0, .int 0, .int 0, .int 0, .ref mq2, .ref mq3, .ref mq4, .ref mq5, .ref mq6, .ref mq7, .ref mq8, .int 0, .int 0, .ref mq9, .ref mq10, .ref mq11, .ref mq12, .ref mq13, .int 0, .int 0, .ref mq14, .ref mq15, .ref mq16, .int 0, .int 0, .ref mq17, .ref mq18, .int (-1), .int 0, .ref mq19, .int 0, .long 0, .ref mq20, .int 0, .int 0, .ref mq21, .ref mq22, .ref mq23, .int 0])), (mq18, .inl (cI, 5, .inl (upd (fun _ => 0) 0 1)))] H := hP
  have hD : va_D (fun q : Nat => s.heap.size ≤ q) [(xq14, .inr (1, [.ref xq16, .ref xq17, .ref xq18, .int 0, .int 0])), (xh0, .inr (10, [.ref xq1, .ref xq4, .ref xq6, .ref xq9, .ref xq14, .ref xq19, .ref xq20, .ref xq25, .ref xq30, .ref xq33, .ref xq39, .ref xq45, .ref xq47, .int 0, .int (-1), .int 0, .int 0])), (xq47, .inl (cI, 5, .inl (upd (fun _ => 0) 0 1))), (mh0, .inr (11, [.int 0, .ref mq1, .int 0, .int 0, .int 0, .int 0, .ref mq2, .ref mq3, .ref mq4, .ref mq5, .ref mq6, .ref mq7, .ref mq8, .int 0, .int 0, .ref mq9, .ref mq10, .ref mq11, .ref mq12, .ref mq13, .int 0, .int 0, .ref mq14, .ref mq15, .ref mq16, .int 0, .int 0, .ref mq17, .ref mq18, .int (-1), .int 0, .ref mq19, .int 0, .long 0, .ref mq20, .int 0, .int 0, .ref mq21, .ref mq22, .ref mq23, .int 0])), (mq18, .inl (cI, 5, .inl (upd (fun _ => 0) 0 1)))] := hD
  have hw : r_6 = (-1) := hw
  subst hw
  refine lv_icmp_eq (tgt := 1825) hx hb dL_law_731 (by decide) (fun _ => ?_) (fun c => absurd (by decide) c)
  exact law_end C0 hS (lv_sub hl [0, 4] rfl)
set_option maxHeartbeats 4000000 in
set_option maxRecDepth 100000 in
theorem law_case_13 {p : Program} {l : Launch} {e : Env} {s : State} {m : MethodId} {below : List Frame} {meth : Method} {c : Code} {b : Nat} {xs : Nat → Int32} {dC : Nat → ClassId} {dI : Nat → Nat → Nat} {cI cJ : ClassId} {xh0 mh0 o0 xq1 xq4 xq6 xq9 xq14 xq19 xq20 xq25 xq30 xq33 xq39 xq45 xq47 xq16 xq17 xq18 xq22 xq23 xq24 mq1 mq2 mq3 mq4 mq5 mq6 mq7 mq8 mq9 mq10 mq11 mq12 mq13 mq14 mq15 mq16 mq17 mq18 mq19 mq20 mq21 mq22 mq23 g0 : Nat} (hl0 : l.stackTraces = false) (C0 : lw_At p s m meth c b 7 xs) (hK : va_K (dC, dI) vwCl [(cI, .int), (cJ, .long)] s) (hF : zF g0 (fun q : Nat => s.heap.size ≤ q) s) (hG : zG (fun q : Nat => s.heap.size ≤ q) s) {H : Heap} {locs : List Loc} (hP : va_P (dC, dI) vwCl [(xh0, .inr (10, [.ref xq1, .ref xq4, .ref xq6, .ref xq9, .ref xq14, .ref xq19, .ref xq20, .ref xq25, .ref xq30, .ref xq33, .ref xq39, .ref xq45, .ref xq47, .int 0, .int (-1), .int 0, .int 0])), (xq14, .inr (1, [.ref xq16, .ref xq17, .ref xq18, .int 0, .int 0])), (xq20, .inr (7, [.ref xq22, .ref xq23, .ref xq24, .int 0, .int 0, .int 0, .int (-1), .int 0, .int 0])), (xq47, .inl (cI, 5, .inl (fun _ => 0))), (mh0, .inr (11, [.int 0, .ref mq1, .int 0, .int 0, .int 0, .int 0, .ref mq2, .ref mq3, .ref mq4, .ref mq5, .ref mq6, .ref mq7, .ref mq8, .int 0, .int 0, .ref mq9, .ref mq10, .ref mq11, .ref mq12, .ref mq13, .int 0, .int 0, .ref mq14, .ref mq15, .ref mq16, .int 0, .int 0, .ref mq17, .ref mq18, .int (-1), .int 0, .ref mq19, .int 0, .long 0, .ref mq20, .int 0, .int 0, .ref mq21, .ref mq22, .ref mq23, .int 0])), (mq18, .inl (cI, 5, .inl (fun _ => 0)))] H) (hD : va_D (fun q : Nat => s.heap.size ≤ q) [(xh0, .inr (10, [.ref xq1, .ref xq4, .ref xq6, .ref xq9, .ref xq14, .ref xq19, .ref xq20, .ref xq25, .ref xq30, .ref xq33, .ref xq39, .ref xq45, .ref xq47, .int 0, .int (-1), .int 0, .int 0])), (xq14, .inr (1, [.ref xq16, .ref xq17, .ref xq18, .int 0, .int 0])), (xq20, .inr (7, [.ref xq22, .ref xq23, .ref xq24, .int 0, .int 0, .int 0, .int (-1), .int 0, .int 0])), (xq47, .inl (cI, 5, .inl (fun _ => 0))), (mh0, .inr (11, [.int 0, .ref mq1, .int 0, .int 0, .int 0, .int 0, .ref mq2, .ref mq3, .ref mq4, .ref mq5, .ref mq6, .ref mq7, .ref mq8, .int 0, .int 0, .ref mq9, .ref mq10, .ref mq11, .ref mq12, .ref mq13, .int 0, .int 0, .ref mq14, .ref mq15, .ref mq16, .int 0, .int 0, .ref mq17, .ref mq18, .int (-1), .int 0, .ref mq19, .int 0, .long 0, .ref mq20, .int 0, .int 0, .ref mq21, .ref mq22, .ref mq23, .int 0])), (mq18, .inl (cI, 5, .inl (fun _ => 0)))]) (hS : va_S (fun q : Nat => s.heap.size ≤ q) s.heap H locs) {ls : Array Slot} (hl : lv_has ls 7 [(0, .ref b), (1, .ref xh0), (2, .ref mh0), (3, .ref o0), (4, .int 0)]) : W p l e room_1 s m #[Value.ref b] below meth c H locs 62 13545 (lw_Z below #[Value.ref b] s) (F0 m 736 ls []) := by
  obtain ⟨hx, hb, hr, hml, hown, hts0, hX, hbl, hlocks, hgv⟩ := id C0
  have hts : ∀ w ∈ wA, w.before #[Value.ref b] s = true := fun w h => hts0 w (List.mem_filter.mp h).1
  have hown : s.vm.findClass RL = some m.cls := hown
  have hA : ∀ q : Nat, s.heap.size ≤ q → (fun q : Nat => s.heap.size ≤ q) q := fun _ h => h
  have hbA : ¬ (fun q : Nat => s.heap.size ≤ q) b := Nat.not_le.mpr hbl
  refine lv_aload_n hx hb dL_law_736 rfl (lv_at hl 1 rfl) ?_
  refine lv_aload_n hx hb dL_law_737 rfl (lv_at hl 0 rfl) ?_
  refine lv_iload hx hb dL_law_738 (lv_at hl 4 rfl) ?_
  refine lv_iconst (v := 1) hx hb dL_law_740 (by decide) ?_
  refine lv_iadd hx hb dL_law_741 ?_
  refine lv_topi (fun v_1 ev_1 => ?_)
  obtain rfl : v_1 = 1 := ev_1.trans (by decide)
  refine va_sld hx hb hX hbl hbA hS (by unfold vp_in; decide) dL_law_742 ?_
  refine lv_topi (fun v_2 ev_2 => ?_)
  obtain rfl : v_2 = xs 1 := ev_2
  have hPc := hP.sub (ws' := [(xh0, .inr (10, [.ref xq1, .ref xq4, .ref xq6, .ref xq9, .ref xq14, .ref xq19, .ref xq20, .ref xq25, .ref xq30, .ref xq33, .ref xq39, .ref xq45, .ref xq47, .int 0, .int (-1), .int 0, .int 0])), (xq14, .inr (1, [.ref xq16, .ref xq17, .ref xq18, .int 0, .int 0])), (xq20, .inr (7, [.ref xq22, .ref xq23, .ref xq24, .int 0, .int 0, .int 0, .int (-1), .int 0, .int 0])), (xq47, .inl (cI, 5, .inl (fun _ => 0)))]) [0, 1, 2, 3] rfl
  have hDc := hD.sub (ws' := [(xh0, .inr (10, [.ref xq1, .ref xq4, .ref xq6, .ref xq9, .ref xq14, .ref xq19, .ref xq20, .ref xq25, .ref xq30, .ref xq33, .ref xq39, .ref xq45, .ref xq47, .int 0, .int (-1), .int 0, .int 0])), (xq14, .inr (1, [.ref xq16, .ref xq17, .ref xq18, .int 0, .int 0])), (xq20, .inr (7, [.ref xq22, .ref xq23, .ref xq24, .int 0, .int 0, .int 0, .int (-1), .int 0, .int 0])), (xq47, .inl (cI, 5, .inl (fun _ => 0)))]) [0, 1, 2, 3] (by decide) rfl
  have hFc := va_free (wc := [(xh0, .inr (10, [.ref xq1, .ref xq4, .ref xq6, .ref xq9, .ref xq14, .ref xq19, .ref xq20, .ref xq25, .ref xq30, .ref xq33, .ref xq39, .ref xq45, .ref xq47, .int 0, .int (-1), .int 0, .int 0])), (xq14, .inr (1, [.ref xq16, .ref xq17, .ref xq18, .int 0, .int 0])), (xq20, .inr (7, [.ref xq22, .ref xq23, .ref xq24, .int 0, .int 0, .int 0, .int (-1), .int 0, .int 0])), (xq47, .inl (cI, 5, .inl (fun _ => 0)))]) hD hS hA [0, 1, 2, 3] rfl
  refine va_calli (va_runV (As := [.int (xs 1)]) (rest := []) ⟨hx, hb, hml, hown, hts⟩ (c_X10_letter l dC dI cI cJ xh0 xq1 xq4 xq6 xq9 xq14 xq19 xq20 xq25 xq30 xq33 xq39 xq45 xq47 xq16 xq17 xq18 xq22 xq23 xq24 H.size (xs 1)) (cwV 1 hts (zgV qw721 qw722 qw723 qw98 qw724) rfl rfl rfl hd_X10_letter ⟨Nat.le_of_ble_eq_true rfl, Nat.le_of_ble_eq_true rfl⟩) (zPV hPc hK hDc (va_recv hK hP (ci := 10) (q0 := 0) rfl rfl)) rfl rfl hl.1 rfl (lv_room (Nat.le_of_ble_eq_true rfl)) dL_law_743 ⟨Nat.le_of_ble_eq_true rfl, Nat.le_of_ble_eq_true rfl⟩) hS (fun q _ h => hFc q h) hFc (fun r_3 u t H locs ht hvm hw hB hz1 hk1 hS => ?_)
  obtain ⟨hP1, hD1⟩ := hB
  rw [ht] at hP1
  obtain ⟨hP, hD⟩ := va_join (wr := [(mh0, .inr (11, [.int 0, .ref mq1, .int 0, .int 0, .int 0, .int 0, .ref mq2, .ref mq3, .ref mq4, .ref mq5, .ref mq6, .ref mq7, .ref mq8, .int 0, .int 0, .ref mq9, .ref mq10, .ref mq11, .ref mq12, .ref mq13, .int 0, .int 0, .ref mq14, .ref mq15, .ref mq16, .int 0, .int 0, .ref mq17, .ref mq18, .int (-1), .int 0, .ref mq19, .int 0, .long 0, .ref mq20, .int 0, .int 0, .ref mq21, .ref mq22, .ref mq23, .int 0])), (mq18, .inl (cI, 5, .inl (fun _ => 0)))]) (w1 := [(xq20, .inr (7, [.ref xq22, .ref xq23, .ref xq24, .int 0, .int 0, .int 0, .int (-1), .int 0, .int 0])), (xq14, .inr (1, [.ref xq16, .ref xq17, .ref xq18, .int 0, .int 0])), (xh0, .inr (10, [.ref xq1, .ref xq4, .ref xq6, .ref xq9, .ref xq14, .ref xq19, .ref xq20, .ref xq25, .ref xq30, .ref xq33, .ref xq39, .ref xq45, .ref xq47, .int 0, .int (-1), .int 0, .int 0])), (xq47, .inl (cI, 5, .inl (upd (fun _ => 0) 0 1)))]) hP hD [0, 1, 2, 3] [4, 5] rfl rfl (by decide) (by decide) hk1 hFc hP1 hD1
  have hP : va_P (dC, dI) vwCl [(mh0, .inr (11, [.int 0, .ref mq1, .int 0, .int 0, .int 0, .int 0, .ref mq2, .ref mq3, .ref mq4, .ref mq5, .ref mq6, .ref mq7, .ref mq8, .int 0, .int 0, .ref mq9, .ref mq10, .ref mq11, .ref mq12, .ref mq13, .int 0, .int 0, .ref mq14, .ref mq15, .ref mq16, .int 0, .int 0, .ref mq17, .ref mq18, .int (-1), .int 0, .ref mq19, .int 0, .long 0, .ref mq20, .int 0, .int 0, .ref mq21, .ref mq22, .ref mq23, .int 0])), (mq18, .inl (cI, 5, .inl (fun _ => 0))), (xq20, .inr (7, [.ref xq22, .ref xq23, .ref xq24, .int 0, .int 0, .int 0, .int (-1), .int 0, .int 0])), (xq14, .inr (1, [.ref xq16, .ref xq17, .ref xq18, .int 0, .int 0])), (xh0, .inr (10, [.ref xq1, .ref xq4, .ref xq6, .ref xq9, .ref xq14, .ref xq19, .ref xq20, .ref xq25, .ref xq30, .ref xq33, .ref xq39, .ref xq45, .ref xq47, .int 0, .int (-1), .int 0, .int 0])), (xq47, .inl (cI, 5, .inl (upd (fun _ => 0) 0 1)))] H := hP
  have hD : va_D (fun q : Nat => s.heap.size ≤ q) [(mh0, .inr (11, [.int 0, .ref mq1, .int 0, .int 0, .int 0, .int 0, .ref mq2, .ref mq3, .ref mq4, .ref mq5, .ref mq6, .ref mq7, .ref mq8, .int 0, .int 0, .ref mq9, .ref mq10, .ref mq11, .ref mq12, .ref mq13, .int 0, .int 0, .ref mq14, .ref mq15, .ref mq16, .int 0, .int 0, .ref mq17, .ref mq18, .int (-1), .int 0, .ref mq19, .int 0, .long 0, .ref mq20, .int 0, .int 0, .ref mq21, .ref mq22, .ref mq23, .int 0])), (mq18, .inl (cI, 5, .inl (fun _ => 0))), (xq20, .inr (7, [.ref xq22, .ref xq23, .ref xq24, .int 0, .int 0, .int 0, .int (-1), .int 0, .int 0])), (xq14, .inr (1, [.ref xq16, .ref xq17, .ref xq18, .int 0, .int 0])), (xh0, .inr (10, [.ref xq1, .ref xq4, .ref xq6, .ref xq9, .ref xq14, .ref xq19, .ref xq20, .ref xq25, .ref xq30, .ref xq33, .ref xq39, .ref xq45, .ref xq47, .int 0, .int (-1), .int 0, .int 0])), (xq47, .inl (cI, 5, .inl (upd (fun _ => 0) 0 1)))] := hD
  have hw : r_3 = (-1) := hw
  subst hw
  refine lv_aload_n hx hb dL_law_746 rfl (lv_at hl 2 rfl) ?_
  refine lv_aload_n hx hb dL_law_747 rfl (lv_at hl 0 rfl) ?_
  refine lv_iload hx hb dL_law_748 (lv_at hl 4 rfl) ?_
  refine lv_iconst (v := 1) hx hb dL_law_750 (by decide) ?_
  refine lv_iadd hx hb dL_law_751 ?_
  refine lv_topi (fun v_4 ev_4 => ?_)
  obtain rfl : v_4 = 1 := ev_4.trans (by decide)
  refine va_sld hx hb hX hbl hbA hS (by unfold vp_in; decide) dL_law_752 ?_
  refine lv_topi (fun v_5 ev_5 => ?_)
  obtain rfl : v_5 = xs 1 := ev_5
  have hPc := hP.sub (ws' := [(mh0, .inr (11, [.int 0, .ref mq1, .int 0, .int 0, .int 0, .int 0, .ref mq2, .ref mq3, .ref mq4, .ref mq5, .ref mq6, .ref mq7, .ref mq8, .int 0, .int 0, .ref mq9, .ref mq10, .ref mq11, .ref mq12, .ref mq13, .int 0, .int 0, .ref mq14, .ref mq15, .ref mq16, .int 0, .int 0, .ref mq17, .ref mq18, .int (-1), .int 0, .ref mq19, .int 0, .long 0, .ref mq20, .int 0, .int 0, .ref mq21, .ref mq22, .ref mq23, .int 0])), (mq18, .inl (cI, 5, .inl (fun _ => 0)))]) [0, 1] rfl
  have hDc := hD.sub (ws' := [(mh0, .inr (11, [.int 0, .ref mq1, .int 0, .int 0, .int 0, .int 0, .ref mq2, .ref mq3, .ref mq4, .ref mq5, .ref mq6, .ref mq7, .ref mq8, .int 0, .int 0, .ref mq9, .ref mq10, .ref mq11, .ref mq12, .ref mq13, .int 0, .int 0, .ref mq14, .ref mq15, .ref mq16, .int 0, .int 0, .ref mq17, .ref mq18, .int (-1), .int 0, .ref mq19, .int 0, .long 0, .ref mq20, .int 0, .int 0, .ref mq21, .ref mq22, .ref mq23, .int 0])), (mq18, .inl (cI, 5, .inl (fun _ => 0)))]) [0, 1] (by decide) rfl
  have hFc := va_free (wc := [(mh0, .inr (11, [.int 0, .ref mq1, .int 0, .int 0, .int 0, .int 0, .ref mq2, .ref mq3, .ref mq4, .ref mq5, .ref mq6, .ref mq7, .ref mq8, .int 0, .int 0, .ref mq9, .ref mq10, .ref mq11, .ref mq12, .ref mq13, .int 0, .int 0, .ref mq14, .ref mq15, .ref mq16, .int 0, .int 0, .ref mq17, .ref mq18, .int (-1), .int 0, .ref mq19, .int 0, .long 0, .ref mq20, .int 0, .int 0, .ref mq21, .ref mq22, .ref mq23, .int 0])), (mq18, .inl (cI, 5, .inl (fun _ => 0)))]) hD hS hA [0, 1] rfl
  refine va_calli (va_runV (As := [.int (xs 1)]) (rest := [.int (-1)]) ⟨hx, hb, hml, hown, hts⟩ (c_X11_letter l dC dI cI cJ mh0 mq1 mq2 mq3 mq4 mq5 mq6 mq7 mq8 mq9 mq10 mq11 mq12 mq13 mq14 mq15 mq16 mq17 mq18 mq19 mq20 mq21 mq22 mq23 H.size (xs 1)) (cwV 1 hts (zgV qw1505 qw1506 qw1507 qw108 qw1508) rfl rfl rfl hd_X11_letter ⟨Nat.le_of_ble_eq_true rfl, Nat.le_of_ble_eq_true rfl⟩) (zPV hPc hK hDc (va_recv hK hP (ci := 11) (q0 := 0) rfl rfl)) rfl rfl hl.1 rfl (lv_room (Nat.le_of_ble_eq_true rfl)) dL_law_753 ⟨Nat.le_of_ble_eq_true rfl, Nat.le_of_ble_eq_true rfl⟩) hS (fun q _ h => hFc q h) hFc (fun r_6 u t H locs ht hvm hw hB hz1 hk1 hS => ?_)
  obtain ⟨hP1, hD1⟩ := hB
  rw [ht] at hP1
  obtain ⟨hP, hD⟩ := va_join (wr := [(xq20, .inr (7, [.ref xq22, .ref xq23, .ref xq24, .int 0, .int 0, .int 0, .int (-1), .int 0, .int 0])), (xq14, .inr (1, [.ref xq16, .ref xq17, .ref xq18, .int 0, .int 0])), (xh0, .inr (10, [.ref xq1, .ref xq4, .ref xq6, .ref xq9, .ref xq14, .ref xq19, .ref xq20, .ref xq25, .ref xq30, .ref xq33, .ref xq39, .ref xq45, .ref xq47, .int 0, .int (-1), .int 0, .int 0])), (xq47, .inl (cI, 5, .inl (upd (fun _ => 0) 0 1)))]) (w1 := [(mh0, .inr (11, [.int 0, .ref mq1, .int 0, .int 0, .int 0, .int 0, .ref mq2, .ref mq3, .ref mq4, .ref mq5, .ref mq6, .ref mq7, .ref mq8, .int 0, .int 0, .ref mq9, .ref mq10, .ref mq11, .ref mq12, .ref mq13, .int 0, .int 0, .ref mq14, .ref mq15, .ref mq16, .int 0, .int 0, .ref mq17, .ref mq18, .int (-1), .int 0, .ref mq19, .int 0, .long 0, .ref mq20, .int 0, .int 0, .ref mq21, .ref mq22, .ref mq23, .int 0])), (mq18, .inl (cI, 5, .inl (upd (fun _ => 0) 0 1)))]) hP hD [0, 1] [2, 3, 4, 5] rfl rfl (by decide) (by decide) hk1 hFc hP1 hD1
  have hP : va_P (dC, dI) vwCl [(xq20, .inr (7, [.ref xq22, .ref xq23, .ref xq24, .int 0, .int 0, .int 0, .int (-1), .int 0, .int 0])), (xq14, .inr (1, [.ref xq16, .ref xq17, .ref xq18, .int 0, .int 0])), (xh0, .inr (10, [.ref xq1, .ref xq4, .ref xq6, .ref xq9, .ref xq14, .ref xq19, .ref xq20, .ref xq25, .ref xq30, .ref xq33, .ref xq39, .ref xq45, .ref xq47, .int 0, .int (-1), .int 0, .int 0])), (xq47, .inl (cI, 5, .inl (upd (fun _ => 0) 0 1))), (mh0, .inr (11, [.int 0, .ref mq1, .int 0, .int 0, .int 0, .int 0, .ref mq2, .ref mq3, .ref mq4, .ref mq5, .ref mq6, .ref mq7, .ref mq8, .int 0, .int 0, .ref mq9, .ref mq10, .ref mq11, .ref mq12, .ref mq13, .int 0, .int 0, .ref mq14, .ref mq15, .ref mq16, .int 0, .int 0, .ref mq17, .ref mq18, .int (-1), .int 0, .ref mq19, .int 0, .long 0, .ref mq20, .int 0, .int 0, .ref mq21, .ref mq22, .ref mq23, .int 0])), (mq18, .inl (cI, 5, .inl (upd (fun _ => 0) 0 1)))] H := hP
  have hD : va_D (fun q : Nat => s.heap.size ≤ q) [(xq20, .inr (7, [.ref xq22, .ref xq23, .ref xq24, .int 0, .int 0, .int 0, .int (-1), .int 0, .int 0])), (xq14, .inr (1, [.ref xq16, .ref xq17, .ref xq18, .int 0, .int 0])), (xh0, .inr (10, [.ref xq1, .ref xq4, .ref xq6, .ref xq9, .ref xq14, .ref xq19, .ref xq20, .ref xq25, .ref xq30, .ref xq33, .ref xq39, .ref xq45, .ref xq47, .int 0, .int (-1), .int 0, .int 0])), (xq47, .inl (cI, 5, .inl (upd (fun _ => 0) 0 1))), (mh0, .inr (11, [.int 0, .ref mq1, .int 0, .int 0, .int 0, .int 0, .ref mq2, .ref mq3, .ref mq4, .ref mq5, .ref mq6, .ref mq7, .ref mq8, .int 0, .int 0, .ref mq9, .ref mq10, .ref mq11, .ref mq12, .ref mq13, .int 0, .int 0, .ref mq14, .ref mq15, .ref mq16, .int 0, .int 0, .ref mq17, .ref mq18, .int (-1), .int 0, .ref mq19, .int 0, .long 0, .ref mq20, .int 0, .int 0, .ref mq21, .ref mq22, .ref mq23, .int 0])), (mq18, .inl (cI, 5, .inl (upd (fun _ => 0) 0 1)))] := hD
  have hw : r_6 = (-1) := hw
  subst hw
  refine lv_icmp_eq (tgt := 1825) hx hb dL_law_756 (by decide) (fun _ => ?_) (fun c => absurd (by decide) c)
  exact law_end C0 hS (lv_sub hl [0, 4] rfl)
set_option maxHeartbeats 4000000 in
set_option maxRecDepth 100000 in
theorem law_case_14 {p : Program} {l : Launch} {e : Env} {s : State} {m : MethodId} {below : List Frame} {meth : Method} {c : Code} {b : Nat} {xs : Nat → Int32} {dC : Nat → ClassId} {dI : Nat → Nat → Nat} {cI cJ : ClassId} {xh0 mh0 o0 xq1 xq4 xq6 xq9 xq14 xq19 xq20 xq25 xq30 xq33 xq39 xq45 xq47 xq16 xq17 xq18 xq22 xq23 xq24 mq1 mq2 mq3 mq4 mq5 mq6 mq7 mq8 mq9 mq10 mq11 mq12 mq13 mq14 mq15 mq16 mq17 mq18 mq19 mq20 mq21 mq22 mq23 g0 : Nat} (hl0 : l.stackTraces = false) (C0 : lw_At p s m meth c b 7 xs) (hK : va_K (dC, dI) vwCl [(cI, .int), (cJ, .long)] s) (hF : zF g0 (fun q : Nat => s.heap.size ≤ q) s) (hG : zG (fun q : Nat => s.heap.size ≤ q) s) {H : Heap} {locs : List Loc} (hP : va_P (dC, dI) vwCl [(xh0, .inr (10, [.ref xq1, .ref xq4, .ref xq6, .ref xq9, .ref xq14, .ref xq19, .ref xq20, .ref xq25, .ref xq30, .ref xq33, .ref xq39, .ref xq45, .ref xq47, .int 0, .int (-1), .int 0, .int 0])), (xq14, .inr (1, [.ref xq16, .ref xq17, .ref xq18, .int 0, .int 0])), (xq20, .inr (7, [.ref xq22, .ref xq23, .ref xq24, .int 0, .int 0, .int 0, .int (-1), .int 0, .int 0])), (xq47, .inl (cI, 5, .inl (fun _ => 0))), (mh0, .inr (11, [.int 0, .ref mq1, .int 0, .int 0, .int 0, .int 0, .ref mq2, .ref mq3, .ref mq4, .ref mq5, .ref mq6, .ref mq7, .ref mq8, .int 0, .int 0, .ref mq9, .ref mq10, .ref mq11, .ref mq12, .ref mq13, .int 0, .int 0, .ref mq14, .ref mq15, .ref mq16, .int 0, .int 0, .ref mq17, .ref mq18, .int (-1), .int 0, .ref mq19, .int 0, .long 0, .ref mq20, .int 0, .int 0, .ref mq21, .ref mq22, .ref mq23, .int 0])), (mq18, .inl (cI, 5, .inl (fun _ => 0)))] H) (hD : va_D (fun q : Nat => s.heap.size ≤ q) [(xh0, .inr (10, [.ref xq1, .ref xq4, .ref xq6, .ref xq9, .ref xq14, .ref xq19, .ref xq20, .ref xq25, .ref xq30, .ref xq33, .ref xq39, .ref xq45, .ref xq47, .int 0, .int (-1), .int 0, .int 0])), (xq14, .inr (1, [.ref xq16, .ref xq17, .ref xq18, .int 0, .int 0])), (xq20, .inr (7, [.ref xq22, .ref xq23, .ref xq24, .int 0, .int 0, .int 0, .int (-1), .int 0, .int 0])), (xq47, .inl (cI, 5, .inl (fun _ => 0))), (mh0, .inr (11, [.int 0, .ref mq1, .int 0, .int 0, .int 0, .int 0, .ref mq2, .ref mq3, .ref mq4, .ref mq5, .ref mq6, .ref mq7, .ref mq8, .int 0, .int 0, .ref mq9, .ref mq10, .ref mq11, .ref mq12, .ref mq13, .int 0, .int 0, .ref mq14, .ref mq15, .ref mq16, .int 0, .int 0, .ref mq17, .ref mq18, .int (-1), .int 0, .ref mq19, .int 0, .long 0, .ref mq20, .int 0, .int 0, .ref mq21, .ref mq22, .ref mq23, .int 0])), (mq18, .inl (cI, 5, .inl (fun _ => 0)))]) (hS : va_S (fun q : Nat => s.heap.size ≤ q) s.heap H locs) {ls : Array Slot} (hl : lv_has ls 7 [(0, .ref b), (1, .ref xh0), (2, .ref mh0), (3, .ref o0), (4, .int 0)]) : W p l e room_1 s m #[Value.ref b] below meth c H locs 62 13545 (lw_Z below #[Value.ref b] s) (F0 m 761 ls []) := by
  obtain ⟨hx, hb, hr, hml, hown, hts0, hX, hbl, hlocks, hgv⟩ := id C0
  have hts : ∀ w ∈ wA, w.before #[Value.ref b] s = true := fun w h => hts0 w (List.mem_filter.mp h).1
  have hown : s.vm.findClass RL = some m.cls := hown
  have hA : ∀ q : Nat, s.heap.size ≤ q → (fun q : Nat => s.heap.size ≤ q) q := fun _ h => h
  have hbA : ¬ (fun q : Nat => s.heap.size ≤ q) b := Nat.not_le.mpr hbl
  refine lv_aload_n hx hb dL_law_761 rfl (lv_at hl 1 rfl) ?_
  refine lv_aload_n hx hb dL_law_762 rfl (lv_at hl 0 rfl) ?_
  refine lv_iload hx hb dL_law_763 (lv_at hl 4 rfl) ?_
  refine lv_iconst (v := 1) hx hb dL_law_765 (by decide) ?_
  refine lv_iadd hx hb dL_law_766 ?_
  refine lv_topi (fun v_1 ev_1 => ?_)
  obtain rfl : v_1 = 1 := ev_1.trans (by decide)
  refine va_sld hx hb hX hbl hbA hS (by unfold vp_in; decide) dL_law_767 ?_
  refine lv_topi (fun v_2 ev_2 => ?_)
  obtain rfl : v_2 = xs 1 := ev_2
  have hPc := hP.sub (ws' := [(xh0, .inr (10, [.ref xq1, .ref xq4, .ref xq6, .ref xq9, .ref xq14, .ref xq19, .ref xq20, .ref xq25, .ref xq30, .ref xq33, .ref xq39, .ref xq45, .ref xq47, .int 0, .int (-1), .int 0, .int 0])), (xq14, .inr (1, [.ref xq16, .ref xq17, .ref xq18, .int 0, .int 0])), (xq20, .inr (7, [.ref xq22, .ref xq23, .ref xq24, .int 0, .int 0, .int 0, .int (-1), .int 0, .int 0])), (xq47, .inl (cI, 5, .inl (fun _ => 0)))]) [0, 1, 2, 3] rfl
  have hDc := hD.sub (ws' := [(xh0, .inr (10, [.ref xq1, .ref xq4, .ref xq6, .ref xq9, .ref xq14, .ref xq19, .ref xq20, .ref xq25, .ref xq30, .ref xq33, .ref xq39, .ref xq45, .ref xq47, .int 0, .int (-1), .int 0, .int 0])), (xq14, .inr (1, [.ref xq16, .ref xq17, .ref xq18, .int 0, .int 0])), (xq20, .inr (7, [.ref xq22, .ref xq23, .ref xq24, .int 0, .int 0, .int 0, .int (-1), .int 0, .int 0])), (xq47, .inl (cI, 5, .inl (fun _ => 0)))]) [0, 1, 2, 3] (by decide) rfl
  have hFc := va_free (wc := [(xh0, .inr (10, [.ref xq1, .ref xq4, .ref xq6, .ref xq9, .ref xq14, .ref xq19, .ref xq20, .ref xq25, .ref xq30, .ref xq33, .ref xq39, .ref xq45, .ref xq47, .int 0, .int (-1), .int 0, .int 0])), (xq14, .inr (1, [.ref xq16, .ref xq17, .ref xq18, .int 0, .int 0])), (xq20, .inr (7, [.ref xq22, .ref xq23, .ref xq24, .int 0, .int 0, .int 0, .int (-1), .int 0, .int 0])), (xq47, .inl (cI, 5, .inl (fun _ => 0)))]) hD hS hA [0, 1, 2, 3] rfl
  refine va_calli (va_runV (As := [.int (xs 1)]) (rest := []) ⟨hx, hb, hml, hown, hts⟩ (c_X10_shoe l dC dI cI cJ xh0 xq1 xq4 xq6 xq9 xq14 xq19 xq20 xq25 xq30 xq33 xq39 xq45 xq47 xq16 xq17 xq18 xq22 xq23 xq24 H.size (xs 1)) (cwV 1 hts (zgV qw730 qw731 qw732 qw98 qw733) rfl rfl rfl hd_X10_shoe ⟨Nat.le_of_ble_eq_true rfl, Nat.le_of_ble_eq_true rfl⟩) (zPV hPc hK hDc (va_recv hK hP (ci := 10) (q0 := 0) rfl rfl)) rfl rfl hl.1 rfl (lv_room (Nat.le_of_ble_eq_true rfl)) dL_law_768 ⟨Nat.le_of_ble_eq_true rfl, Nat.le_of_ble_eq_true rfl⟩) hS (fun q _ h => hFc q h) hFc (fun r_3 u t H locs ht hvm hw hB hz1 hk1 hS => ?_)
  obtain ⟨hP1, hD1⟩ := hB
  rw [ht] at hP1
  obtain ⟨hP, hD⟩ := va_join (wr := [(mh0, .inr (11, [.int 0, .ref mq1, .int 0, .int 0, .int 0, .int 0, .ref mq2, .ref mq3, .ref mq4, .ref mq5, .ref mq6, .ref mq7, .ref mq8, .int 0, .int 0, .ref mq9, .ref mq10, .ref mq11, .ref mq12, .ref mq13, .int 0, .int 0, .ref mq14, .ref mq15, .ref mq16, .int 0, .int 0, .ref mq17, .ref mq18, .int (-1), .int 0, .ref mq19, .int 0, .long 0, .ref mq20, .int 0, .int 0, .ref mq21, .ref mq22, .ref mq23, .int 0])), (mq18, .inl (cI, 5, .inl (fun _ => 0)))]) (w1 := [(xq20, .inr (7, [.ref xq22, .ref xq23, .ref xq24, .int 0, .int 0, .int 0, .int (-1), .int 0, .int 0])), (xq14, .inr (1, [.ref xq16, .ref xq17, .ref xq18, .int 0, .int 0])), (xh0, .inr (10, [.ref xq1, .ref xq4, .ref xq6, .ref xq9, .ref xq14, .ref xq19, .ref xq20, .ref xq25, .ref xq30, .ref xq33, .ref xq39, .ref xq45, .ref xq47, .int 0, .int (-1), .int 0, .int 0])), (xq47, .inl (cI, 5, .inl (upd (fun _ => 0) 0 1)))]) hP hD [0, 1, 2, 3] [4, 5] rfl rfl (by decide) (by decide) hk1 hFc hP1 hD1
  have hP : va_P (dC, dI) vwCl [(mh0, .inr (11, [.int 0, .ref mq1, .int 0, .int 0, .int 0, .int 0, .ref mq2, .ref mq3, .ref mq4, .ref mq5, .ref mq6, .ref mq7, .ref mq8, .int 0, .int 0, .ref mq9, .ref mq10, .ref mq11, .ref mq12, .ref mq13, .int 0, .int 0, .ref mq14, .ref mq15, .ref mq16, .int 0, .int 0, .ref mq17, .ref mq18, .int (-1), .int 0, .ref mq19, .int 0, .long 0, .ref mq20, .int 0, .int 0, .ref mq21, .ref mq22, .ref mq23, .int 0])), (mq18, .inl (cI, 5, .inl (fun _ => 0))), (xq20, .inr (7, [.ref xq22, .ref xq23, .ref xq24, .int 0, .int 0, .int 0, .int (-1), .int 0, .int 0])), (xq14, .inr (1, [.ref xq16, .ref xq17, .ref xq18, .int 0, .int 0])), (xh0, .inr (10, [.ref xq1, .ref xq4, .ref xq6, .ref xq9, .ref xq14, .ref xq19, .ref xq20, .ref xq25, .ref xq30, .ref xq33, .ref xq39, .ref xq45, .ref xq47, .int 0, .int (-1), .int 0, .int 0])), (xq47, .inl (cI, 5, .inl (upd (fun _ => 0) 0 1)))] H := hP
  have hD : va_D (fun q : Nat => s.heap.size ≤ q) [(mh0, .inr (11, [.int 0, .ref mq1, .int 0, .int 0, .int 0, .int 0, .ref mq2, .ref mq3, .ref mq4, .ref mq5, .ref mq6, .ref mq7, .ref mq8, .int 0, .int 0, .ref mq9, .ref mq10, .ref mq11, .ref mq12, .ref mq13, .int 0, .int 0, .ref mq14, .ref mq15, .ref mq16, .int 0, .int 0, .ref mq17, .ref mq18, .int (-1), .int 0, .ref mq19, .int 0, .long 0, .ref mq20, .int 0, .int 0, .ref mq21, .ref mq22, .ref mq23, .int 0])), (mq18, .inl (cI, 5, .inl (fun _ => 0))), (xq20, .inr (7, [.ref xq22, .ref xq23, .ref xq24, .int 0, .int 0, .int 0, .int (-1), .int 0, .int 0])), (xq14, .inr (1, [.ref xq16, .ref xq17, .ref xq18, .int 0, .int 0])), (xh0, .inr (10, [.ref xq1, .ref xq4, .ref xq6, .ref xq9, .ref xq14, .ref xq19, .ref xq20, .ref xq25, .ref xq30, .ref xq33, .ref xq39, .ref xq45, .ref xq47, .int 0, .int (-1), .int 0, .int 0])), (xq47, .inl (cI, 5, .inl (upd (fun _ => 0) 0 1)))] := hD
  have hw : r_3 = (-1) := hw
  subst hw
  refine lv_aload_n hx hb dL_law_771 rfl (lv_at hl 2 rfl) ?_
  refine lv_aload_n hx hb dL_law_772 rfl (lv_at hl 0 rfl) ?_
  refine lv_iload hx hb dL_law_773 (lv_at hl 4 rfl) ?_
  refine lv_iconst (v := 1) hx hb dL_law_775 (by decide) ?_
  refine lv_iadd hx hb dL_law_776 ?_
  refine lv_topi (fun v_4 ev_4 => ?_)
  obtain rfl : v_4 = 1 := ev_4.trans (by decide)
  refine va_sld hx hb hX hbl hbA hS (by unfold vp_in; decide) dL_law_777 ?_
  refine lv_topi (fun v_5 ev_5 => ?_)
  obtain rfl : v_5 = xs 1 := ev_5
  have hPc := hP.sub (ws' := [(mh0, .inr (11, [.int 0, .ref mq1, .int 0, .int 0, .int 0, .int 0, .ref mq2, .ref mq3, .ref mq4, .ref mq5, .ref mq6, .ref mq7, .ref mq8, .int 0, .int 0, .ref mq9, .ref mq10, .ref mq11, .ref mq12, .ref mq13, .int 0, .int 0, .ref mq14, .ref mq15, .ref mq16, .int 0, .int 0, .ref mq17, .ref mq18, .int (-1), .int 0, .ref mq19, .int 0, .long 0, .ref mq20, .int 0, .int 0, .ref mq21, .ref mq22, .ref mq23, .int 0])), (mq18, .inl (cI, 5, .inl (fun _ => 0)))]) [0, 1] rfl
  have hDc := hD.sub (ws' := [(mh0, .inr (11, [.int 0, .ref mq1, .int 0, .int 0, .int 0, .int 0, .ref mq2, .ref mq3, .ref mq4, .ref mq5, .ref mq6, .ref mq7, .ref mq8, .int 0, .int 0, .ref mq9, .ref mq10, .ref mq11, .ref mq12, .ref mq13, .int 0, .int 0, .ref mq14, .ref mq15, .ref mq16, .int 0, .int 0, .ref mq17, .ref mq18, .int (-1), .int 0, .ref mq19, .int 0, .long 0, .ref mq20, .int 0, .int 0, .ref mq21, .ref mq22, .ref mq23, .int 0])), (mq18, .inl (cI, 5, .inl (fun _ => 0)))]) [0, 1] (by decide) rfl
  have hFc := va_free (wc := [(mh0, .inr (11, [.int 0, .ref mq1, .int 0, .int 0, .int 0, .int 0, .ref mq2, .ref mq3, .ref mq4, .ref mq5, .ref mq6, .ref mq7, .ref mq8, .int 0, .int 0, .ref mq9, .ref mq10, .ref mq11, .ref mq12, .ref mq13, .int 0, .int 0, .ref mq14, .ref mq15, .ref mq16, .int 0, .int 0, .ref mq17, .ref mq18, .int (-1), .int 0, .ref mq19, .int 0, .long 0, .ref mq20, .int 0, .int 0, .ref mq21, .ref mq22, .ref mq23, .int 0])), (mq18, .inl (cI, 5, .inl (fun _ => 0)))]) hD hS hA [0, 1] rfl
  refine va_calli (va_runV (As := [.int (xs 1)]) (rest := [.int (-1)]) ⟨hx, hb, hml, hown, hts⟩ (c_X11_shoe l dC dI cI cJ mh0 mq1 mq2 mq3 mq4 mq5 mq6 mq7 mq8 mq9 mq10 mq11 mq12 mq13 mq14 mq15 mq16 mq17 mq18 mq19 mq20 mq21 mq22 mq23 H.size (xs 1)) (cwV 1 hts (zgV qw1513 qw1514 qw1515 qw108 qw1516) rfl rfl rfl hd_X11_shoe ⟨Nat.le_of_ble_eq_true rfl, Nat.le_of_ble_eq_true rfl⟩) (zPV hPc hK hDc (va_recv hK hP (ci := 11) (q0 := 0) rfl rfl)) rfl rfl hl.1 rfl (lv_room (Nat.le_of_ble_eq_true rfl)) dL_law_778 ⟨Nat.le_of_ble_eq_true rfl, Nat.le_of_ble_eq_true rfl⟩) hS (fun q _ h => hFc q h) hFc (fun r_6 u t H locs ht hvm hw hB hz1 hk1 hS => ?_)
  obtain ⟨hP1, hD1⟩ := hB
  rw [ht] at hP1
  obtain ⟨hP, hD⟩ := va_join (wr := [(xq20, .inr (7, [.ref xq22, .ref xq23, .ref xq24, .int 0, .int 0, .int 0, .int (-1), .int 0, .int 0])), (xq14, .inr (1, [.ref xq16, .ref xq17, .ref xq18, .int 0, .int 0])), (xh0, .inr (10, [.ref xq1, .ref xq4, .ref xq6, .ref xq9, .ref xq14, .ref xq19, .ref xq20, .ref xq25, .ref xq30, .ref xq33, .ref xq39, .ref xq45, .ref xq47, .int 0, .int (-1), .int 0, .int 0])), (xq47, .inl (cI, 5, .inl (upd (fun _ => 0) 0 1)))]) (w1 := [(mh0, .inr (11, [.int 0, .ref mq1, .int 0, .int 0, .int 0, .int 0, .ref mq2, .ref mq3, .ref mq4, .ref mq5, .ref mq6, .ref mq7, .ref mq8, .int 0, .int 0, .ref mq9, .ref mq10, .ref mq11, .ref mq12, .ref mq13, .int 0, .int 0, .ref mq14, .ref mq15, .ref mq16, .int 0, .int 0, .ref mq17, .ref mq18, .int (-1), .int 0, .ref mq19, .int 0, .long 0, .ref mq20, .int 0, .int 0, .ref mq21, .ref mq22, .ref mq23, .int 0])), (mq18, .inl (cI, 5, .inl (upd (fun _ => 0) 0 1)))]) hP hD [0, 1] [2, 3, 4, 5] rfl rfl (by decide) (by decide) hk1 hFc hP1 hD1
  have hP : va_P (dC, dI) vwCl [(xq20, .inr (7, [.ref xq22, .ref xq23, .ref xq24, .int 0, .int 0, .int 0, .int (-1), .int 0, .int 0])), (xq14, .inr (1, [.ref xq16, .ref xq17, .ref xq18, .int 0, .int 0])), (xh0, .inr (10, [.ref xq1, .ref xq4, .ref xq6, .ref xq9, .ref xq14, .ref xq19, .ref xq20, .ref xq25, .ref xq30, .ref xq33, .ref xq39, .ref xq45, .ref xq47, .int 0, .int (-1), .int 0, .int 0])), (xq47, .inl (cI, 5, .inl (upd (fun _ => 0) 0 1))), (mh0, .inr (11, [.int 0, .ref mq1, .int 0, .int 0, .int 0, .int 0, .ref mq2, .ref mq3, .ref mq4, .ref mq5, .ref mq6, .ref mq7, .ref mq8, .int 0, .int 0, .ref mq9, .ref mq10, .ref mq11, .ref mq12, .ref mq13, .int 0, .int 0, .ref mq14, .ref mq15, .ref mq16, .int 0, .int 0, .ref mq17, .ref mq18, .int (-1), .int 0, .ref mq19, .int 0, .long 0, .ref mq20, .int 0, .int 0, .ref mq21, .ref mq22, .ref mq23, .int 0])), (mq18, .inl (cI, 5, .inl (upd (fun _ => 0) 0 1)))] H := hP
  have hD : va_D (fun q : Nat => s.heap.size ≤ q) [(xq20, .inr (7, [.ref xq22, .ref xq23, .ref xq24, .int 0, .int 0, .int 0, .int (-1), .int 0, .int 0])), (xq14, .inr (1, [.ref xq16, .ref xq17, .ref xq18, .int 0, .int 0])), (xh0, .inr (10, [.ref xq1, .ref xq4, .ref xq6, .ref xq9, .ref xq14, .ref xq19, .ref xq20, .ref xq25, .ref xq30, .ref xq33, .ref xq39, .ref xq45, .ref xq47, .int 0, .int (-1), .int 0, .int 0])), (xq47, .inl (cI, 5, .inl (upd (fun _ => 0) 0 1))), (mh0, .inr (11, [.int 0, .ref mq1, .int 0, .int 0, .int 0, .int 0, .ref mq2, .ref mq3, .ref mq4, .ref mq5, .ref mq6, .ref mq7, .ref mq8, .int 0, .int 0, .ref mq9, .ref mq10, .ref mq11, .ref mq12, .ref mq13, .int 0, .int 0, .ref mq14, .ref mq15, .ref mq16, .int 0, .int 0, .ref mq17, .ref mq18, .int (-1), .int 0, .ref mq19, .int 0, .long 0, .ref mq20, .int 0, .int 0, .ref mq21, .ref mq22, .ref mq23, .int 0])), (mq18, .inl (cI, 5, .inl (upd (fun _ => 0) 0 1)))] := hD
  have hw : r_6 = (-1) := hw
  subst hw
  refine lv_icmp_eq (tgt := 1825) hx hb dL_law_781 (by decide) (fun _ => ?_) (fun c => absurd (by decide) c)
  exact law_end C0 hS (lv_sub hl [0, 4] rfl)
set_option maxHeartbeats 4000000 in
set_option maxRecDepth 100000 in
theorem law_case_15 {p : Program} {l : Launch} {e : Env} {s : State} {m : MethodId} {below : List Frame} {meth : Method} {c : Code} {b : Nat} {xs : Nat → Int32} {dC : Nat → ClassId} {dI : Nat → Nat → Nat} {cI cJ : ClassId} {xh0 mh0 o0 xq1 xq4 xq6 xq9 xq14 xq19 xq20 xq25 xq30 xq33 xq39 xq45 xq47 xq16 xq17 xq18 mq1 mq2 mq3 mq4 mq5 mq6 mq7 mq8 mq9 mq10 mq11 mq12 mq13 mq14 mq15 mq16 mq17 mq18 mq19 mq20 mq21 mq22 mq23 g0 : Nat} (hl0 : l.stackTraces = false) (C0 : lw_At p s m meth c b 7 xs) (hK : va_K (dC, dI) vwCl [(cI, .int), (cJ, .long)] s) (hF : zF g0 (fun q : Nat => s.heap.size ≤ q) s) (hG : zG (fun q : Nat => s.heap.size ≤ q) s) {H : Heap} {locs : List Loc} (hP : va_P (dC, dI) vwCl [(xh0, .inr (10, [.ref xq1, .ref xq4, .ref xq6, .ref xq9, .ref xq14, .ref xq19, .ref xq20, .ref xq25, .ref xq30, .ref xq33, .ref xq39, .ref xq45, .ref xq47, .int 0, .int (-1), .int 0, .int 0])), (xq14, .inr (1, [.ref xq16, .ref xq17, .ref xq18, .int 0, .int 0])), (xq47, .inl (cI, 5, .inl (fun _ => 0))), (mh0, .inr (11, [.int 0, .ref mq1, .int 0, .int 0, .int 0, .int 0, .ref mq2, .ref mq3, .ref mq4, .ref mq5, .ref mq6, .ref mq7, .ref mq8, .int 0, .int 0, .ref mq9, .ref mq10, .ref mq11, .ref mq12, .ref mq13, .int 0, .int 0, .ref mq14, .ref mq15, .ref mq16, .int 0, .int 0, .ref mq17, .ref mq18, .int (-1), .int 0, .ref mq19, .int 0, .long 0, .ref mq20, .int 0, .int 0, .ref mq21, .ref mq22, .ref mq23, .int 0])), (mq18, .inl (cI, 5, .inl (fun _ => 0)))] H) (hD : va_D (fun q : Nat => s.heap.size ≤ q) [(xh0, .inr (10, [.ref xq1, .ref xq4, .ref xq6, .ref xq9, .ref xq14, .ref xq19, .ref xq20, .ref xq25, .ref xq30, .ref xq33, .ref xq39, .ref xq45, .ref xq47, .int 0, .int (-1), .int 0, .int 0])), (xq14, .inr (1, [.ref xq16, .ref xq17, .ref xq18, .int 0, .int 0])), (xq47, .inl (cI, 5, .inl (fun _ => 0))), (mh0, .inr (11, [.int 0, .ref mq1, .int 0, .int 0, .int 0, .int 0, .ref mq2, .ref mq3, .ref mq4, .ref mq5, .ref mq6, .ref mq7, .ref mq8, .int 0, .int 0, .ref mq9, .ref mq10, .ref mq11, .ref mq12, .ref mq13, .int 0, .int 0, .ref mq14, .ref mq15, .ref mq16, .int 0, .int 0, .ref mq17, .ref mq18, .int (-1), .int 0, .ref mq19, .int 0, .long 0, .ref mq20, .int 0, .int 0, .ref mq21, .ref mq22, .ref mq23, .int 0])), (mq18, .inl (cI, 5, .inl (fun _ => 0)))]) (hS : va_S (fun q : Nat => s.heap.size ≤ q) s.heap H locs) {ls : Array Slot} (hl : lv_has ls 7 [(0, .ref b), (1, .ref xh0), (2, .ref mh0), (3, .ref o0), (4, .int 0)]) : W p l e room_1 s m #[Value.ref b] below meth c H locs 62 13545 (lw_Z below #[Value.ref b] s) (F0 m 786 ls []) := by
  obtain ⟨hx, hb, hr, hml, hown, hts0, hX, hbl, hlocks, hgv⟩ := id C0
  have hts : ∀ w ∈ wA, w.before #[Value.ref b] s = true := fun w h => hts0 w (List.mem_filter.mp h).1
  have hown : s.vm.findClass RL = some m.cls := hown
  have hA : ∀ q : Nat, s.heap.size ≤ q → (fun q : Nat => s.heap.size ≤ q) q := fun _ h => h
  have hbA : ¬ (fun q : Nat => s.heap.size ≤ q) b := Nat.not_le.mpr hbl
  refine lv_aload_n hx hb dL_law_786 rfl (lv_at hl 1 rfl) ?_
  refine lv_aload_n hx hb dL_law_787 rfl (lv_at hl 0 rfl) ?_
  refine lv_iload hx hb dL_law_788 (lv_at hl 4 rfl) ?_
  refine lv_iconst (v := 1) hx hb dL_law_790 (by decide) ?_
  refine lv_iadd hx hb dL_law_791 ?_
  refine lv_topi (fun v_1 ev_1 => ?_)
  obtain rfl : v_1 = 1 := ev_1.trans (by decide)
  refine va_sld hx hb hX hbl hbA hS (by unfold vp_in; decide) dL_law_792 ?_
  refine lv_topi (fun v_2 ev_2 => ?_)
  obtain rfl : v_2 = xs 1 := ev_2
  have hPc := hP.sub (ws' := [(xh0, .inr (10, [.ref xq1, .ref xq4, .ref xq6, .ref xq9, .ref xq14, .ref xq19, .ref xq20, .ref xq25, .ref xq30, .ref xq33, .ref xq39, .ref xq45, .ref xq47, .int 0, .int (-1), .int 0, .int 0])), (xq14, .inr (1, [.ref xq16, .ref xq17, .ref xq18, .int 0, .int 0])), (xq47, .inl (cI, 5, .inl (fun _ => 0)))]) [0, 1, 2] rfl
  have hDc := hD.sub (ws' := [(xh0, .inr (10, [.ref xq1, .ref xq4, .ref xq6, .ref xq9, .ref xq14, .ref xq19, .ref xq20, .ref xq25, .ref xq30, .ref xq33, .ref xq39, .ref xq45, .ref xq47, .int 0, .int (-1), .int 0, .int 0])), (xq14, .inr (1, [.ref xq16, .ref xq17, .ref xq18, .int 0, .int 0])), (xq47, .inl (cI, 5, .inl (fun _ => 0)))]) [0, 1, 2] (by decide) rfl
  have hFc := va_free (wc := [(xh0, .inr (10, [.ref xq1, .ref xq4, .ref xq6, .ref xq9, .ref xq14, .ref xq19, .ref xq20, .ref xq25, .ref xq30, .ref xq33, .ref xq39, .ref xq45, .ref xq47, .int 0, .int (-1), .int 0, .int 0])), (xq14, .inr (1, [.ref xq16, .ref xq17, .ref xq18, .int 0, .int 0])), (xq47, .inl (cI, 5, .inl (fun _ => 0)))]) hD hS hA [0, 1, 2] rfl
  refine va_calli (va_runV (As := [.int (xs 1)]) (rest := []) ⟨hx, hb, hml, hown, hts⟩ (c_X10_wed l dC dI cI cJ xh0 xq1 xq4 xq6 xq9 xq14 xq19 xq20 xq25 xq30 xq33 xq39 xq45 xq47 xq16 xq17 xq18 H.size (xs 1)) (cwV 1 hts (zgV qw734 qw735 qw736 qw98 qw737) rfl rfl rfl hd_X10_wed ⟨Nat.le_of_ble_eq_true rfl, Nat.le_of_ble_eq_true rfl⟩) (zPV hPc hK hDc (va_recv hK hP (ci := 10) (q0 := 0) rfl rfl)) rfl rfl hl.1 rfl (lv_room (Nat.le_of_ble_eq_true rfl)) dL_law_793 ⟨Nat.le_of_ble_eq_true rfl, Nat.le_of_ble_eq_true rfl⟩) hS (fun q _ h => hFc q h) hFc (fun r_3 u t H locs ht hvm hw hB hz1 hk1 hS => ?_)
  obtain ⟨hP1, hD1⟩ := hB
  rw [ht] at hP1
  obtain ⟨hP, hD⟩ := va_join (wr := [(mh0, .inr (11, [.int 0, .ref mq1, .int 0, .int 0, .int 0, .int 0, .ref mq2, .ref mq3, .ref mq4, .ref mq5, .ref mq6, .ref mq7, .ref mq8, .int 0, .int 0, .ref mq9, .ref mq10, .ref mq11, .ref mq12, .ref mq13, .int 0, .int 0, .ref mq14, .ref mq15, .ref mq16, .int 0, .int 0, .ref mq17, .ref mq18, .int (-1), .int 0, .ref mq19, .int 0, .long 0, .ref mq20, .int 0, .int 0, .ref mq21, .ref mq22, .ref mq23, .int 0])), (mq18, .inl (cI, 5, .inl (fun _ => 0)))]) (w1 := [(xq14, .inr (1, [.ref xq16, .ref xq17, .ref xq18, .int 0, .int 0])), (xh0, .inr (10, [.ref xq1, .ref xq4, .ref xq6, .ref xq9, .ref xq14, .ref xq19, .ref xq20, .ref xq25, .ref xq30, .ref xq33, .ref xq39, .ref xq45, .ref xq47, .int 0, .int (-1), .int 0, .int 0])), (xq47, .inl (cI, 5, .inl (upd (fun _ => 0) 0 1)))]) hP hD [0, 1, 2] [3, 4] rfl rfl (by decide) (by decide) hk1 hFc hP1 hD1
  have hP : va_P (dC, dI) vwCl [(mh0, .inr (11, [.int 0, .ref mq1, .int 0, .int 0, .int 0, .int 0, .ref mq2, .ref mq3, .ref mq4, .ref mq5, .ref mq6, .ref mq7, .ref mq8, .int 0, .int 0, .ref mq9, .ref mq10, .ref mq11, .ref mq12, .ref mq13, .int 0, .int 0, .ref mq14, .ref mq15, .ref mq16, .int 0, .int 0, .ref mq17, .ref mq18, .int (-1), .int 0, .ref mq19, .int 0, .long 0, .ref mq20, .int 0, .int 0, .ref mq21, .ref mq22, .ref mq23, .int 0])), (mq18, .inl (cI, 5, .inl (fun _ => 0))), (xq14, .inr (1, [.ref xq16, .ref xq17, .ref xq18, .int 0, .int 0])), (xh0, .inr (10, [.ref xq1, .ref xq4, .ref xq6, .ref xq9, .ref xq14, .ref xq19, .ref xq20, .ref xq25, .ref xq30, .ref xq33, .ref xq39, .ref xq45, .ref xq47, .int 0, .int (-1), .int 0, .int 0])), (xq47, .inl (cI, 5, .inl (upd (fun _ => 0) 0 1)))] H := hP
  have hD : va_D (fun q : Nat => s.heap.size ≤ q) [(mh0, .inr (11, [.int 0, .ref mq1, .int 0, .int 0, .int 0, .int 0, .ref mq2, .ref mq3, .ref mq4, .ref mq5, .ref mq6, .ref mq7, .ref mq8, .int 0, .int 0, .ref mq9, .ref mq10, .ref mq11, .ref mq12, .ref mq13, .int 0, .int 0, .ref mq14, .ref mq15, .ref mq16, .int 0, .int 0, .ref mq17, .ref mq18, .int (-1), .int 0, .ref mq19, .int 0, .long 0, .ref mq20, .int 0, .int 0, .ref mq21, .ref mq22, .ref mq23, .int 0])), (mq18, .inl (cI, 5, .inl (fun _ => 0))), (xq14, .inr (1, [.ref xq16, .ref xq17, .ref xq18, .int 0, .int 0])), (xh0, .inr (10, [.ref xq1, .ref xq4, .ref xq6, .ref xq9, .ref xq14, .ref xq19, .ref xq20, .ref xq25, .ref xq30, .ref xq33, .ref xq39, .ref xq45, .ref xq47, .int 0, .int (-1), .int 0, .int 0])), (xq47, .inl (cI, 5, .inl (upd (fun _ => 0) 0 1)))] := hD
  have hw : r_3 = (-1) := hw
  subst hw
  refine lv_aload_n hx hb dL_law_796 rfl (lv_at hl 2 rfl) ?_
  refine lv_aload_n hx hb dL_law_797 rfl (lv_at hl 0 rfl) ?_
  refine lv_iload hx hb dL_law_798 (lv_at hl 4 rfl) ?_
  refine lv_iconst (v := 1) hx hb dL_law_800 (by decide) ?_
  refine lv_iadd hx hb dL_law_801 ?_
  refine lv_topi (fun v_4 ev_4 => ?_)
  obtain rfl : v_4 = 1 := ev_4.trans (by decide)
  refine va_sld hx hb hX hbl hbA hS (by unfold vp_in; decide) dL_law_802 ?_
  refine lv_topi (fun v_5 ev_5 => ?_)
  obtain rfl : v_5 = xs 1 := ev_5
  have hPc := hP.sub (ws' := [(mh0, .inr (11, [.int 0, .ref mq1, .int 0, .int 0, .int 0, .int 0, .ref mq2, .ref mq3, .ref mq4, .ref mq5, .ref mq6, .ref mq7, .ref mq8, .int 0, .int 0, .ref mq9, .ref mq10, .ref mq11, .ref mq12, .ref mq13, .int 0, .int 0, .ref mq14, .ref mq15, .ref mq16, .int 0, .int 0, .ref mq17, .ref mq18, .int (-1), .int 0, .ref mq19, .int 0, .long 0, .ref mq20, .int 0, .int 0, .ref mq21, .ref mq22, .ref mq23, .int 0])), (mq18, .inl (cI, 5, .inl (fun _ => 0)))]) [0, 1] rfl
  have hDc := hD.sub (ws' := [(mh0, .inr (11, [.int 0, .ref mq1, .int 0, .int 0, .int 0, .int 0, .ref mq2, .ref mq3, .ref mq4, .ref mq5, .ref mq6, .ref mq7, .ref mq8, .int 0, .int 0, .ref mq9, .ref mq10, .ref mq11, .ref mq12, .ref mq13, .int 0, .int 0, .ref mq14, .ref mq15, .ref mq16, .int 0, .int 0, .ref mq17, .ref mq18, .int (-1), .int 0, .ref mq19, .int 0, .long 0, .ref mq20, .int 0, .int 0, .ref mq21, .ref mq22, .ref mq23, .int 0])), (mq18, .inl (cI, 5, .inl (fun _ => 0)))]) [0, 1] (by decide) rfl
  have hFc := va_free (wc := [(mh0, .inr (11, [.int 0, .ref mq1, .int 0, .int 0, .int 0, .int 0, .ref mq2, .ref mq3, .ref mq4, .ref mq5, .ref mq6, .ref mq7, .ref mq8, .int 0, .int 0, .ref mq9, .ref mq10, .ref mq11, .ref mq12, .ref mq13, .int 0, .int 0, .ref mq14, .ref mq15, .ref mq16, .int 0, .int 0, .ref mq17, .ref mq18, .int (-1), .int 0, .ref mq19, .int 0, .long 0, .ref mq20, .int 0, .int 0, .ref mq21, .ref mq22, .ref mq23, .int 0])), (mq18, .inl (cI, 5, .inl (fun _ => 0)))]) hD hS hA [0, 1] rfl
  refine va_calli (va_runV (As := [.int (xs 1)]) (rest := [.int (-1)]) ⟨hx, hb, hml, hown, hts⟩ (c_X11_wed l dC dI cI cJ mh0 mq1 mq2 mq3 mq4 mq5 mq6 mq7 mq8 mq9 mq10 mq11 mq12 mq13 mq14 mq15 mq16 mq17 mq18 mq19 mq20 mq21 mq22 mq23 H.size (xs 1)) (cwV 1 hts (zgV qw1517 qw1518 qw1519 qw108 qw1520) rfl rfl rfl hd_X11_wed ⟨Nat.le_of_ble_eq_true rfl, Nat.le_of_ble_eq_true rfl⟩) (zPV hPc hK hDc (va_recv hK hP (ci := 11) (q0 := 0) rfl rfl)) rfl rfl hl.1 rfl (lv_room (Nat.le_of_ble_eq_true rfl)) dL_law_803 ⟨Nat.le_of_ble_eq_true rfl, Nat.le_of_ble_eq_true rfl⟩) hS (fun q _ h => hFc q h) hFc (fun r_6 u t H locs ht hvm hw hB hz1 hk1 hS => ?_)
  obtain ⟨hP1, hD1⟩ := hB
  rw [ht] at hP1
  obtain ⟨hP, hD⟩ := va_join (wr := [(xq14, .inr (1, [.ref xq16, .ref xq17, .ref xq18, .int 0, .int 0])), (xh0, .inr (10, [.ref xq1, .ref xq4, .ref xq6, .ref xq9, .ref xq14, .ref xq19, .ref xq20, .ref xq25, .ref xq30, .ref xq33, .ref xq39, .ref xq45, .ref xq47, .int 0, .int (-1), .int 0, .int 0])), (xq47, .inl (cI, 5, .inl (upd (fun _ => 0) 0 1)))]) (w1 := [(mh0, .inr (11, [.int 0, .ref mq1, .int 0, .int 0, .int 0, .int 0, .ref mq2, .ref mq3, .ref mq4, .ref mq5, .ref mq6, .ref mq7, .ref mq8, .int 0, .int 0, .ref mq9, .ref mq10, .ref mq11, .ref mq12, .ref mq13, .int 0, .int 0, .ref mq14, .ref mq15, .ref mq16, .int 0, .int 0, .ref mq17, .ref mq18, .int (-1), .int 0, .ref mq19, .int 0, .long 0, .ref mq20, .int 0, .int 0, .ref mq21, .ref mq22, .ref mq23, .int 0])), (mq18, .inl (cI, 5, .inl (upd (fun _ => 0) 0 1)))]) hP hD [0, 1] [2, 3, 4] rfl rfl (by decide) (by decide) hk1 hFc hP1 hD1
  have hP : va_P (dC, dI) vwCl [(xq14, .inr (1, [.ref xq16, .ref xq17, .ref xq18, .int 0, .int 0])), (xh0, .inr (10, [.ref xq1, .ref xq4, .ref xq6, .ref xq9, .ref xq14, .ref xq19, .ref xq20, .ref xq25, .ref xq30, .ref xq33, .ref xq39, .ref xq45, .ref xq47, .int 0, .int (-1), .int 0, .int 0])), (xq47, .inl (cI, 5, .inl (upd (fun _ => 0) 0 1))), (mh0, .inr (11, [.int 0, .ref mq1, .int 0, .int 0, .int 0, .int 0, .ref mq2, .ref mq3, .ref mq4, .ref mq5, .ref mq6, .ref mq7, .ref mq8, .int 0, .int 0, .ref mq9, .ref mq10, .ref mq11, .ref mq12, .ref mq13, .int 0, .int 0, .ref mq14, .ref mq15, .ref mq16, .int 0, .int 0, .ref mq17, .ref mq18, .int (-1), .int 0, .ref mq19, .int 0, .long 0, .ref mq20, .int 0, .int 0, .ref mq21, .ref mq22, .ref mq23, .int 0])), (mq18, .inl (cI, 5, .inl (upd (fun _ => 0) 0 1)))] H := hP
  have hD : va_D (fun q : Nat => s.heap.size ≤ q) [(xq14, .inr (1, [.ref xq16, .ref xq17, .ref xq18, .int 0, .int 0])), (xh0, .inr (10, [.ref xq1, .ref xq4, .ref xq6, .ref xq9, .ref xq14, .ref xq19, .ref xq20, .ref xq25, .ref xq30, .ref xq33, .ref xq39, .ref xq45, .ref xq47, .int 0, .int (-1), .int 0, .int 0])), (xq47, .inl (cI, 5, .inl (upd (fun _ => 0) 0 1))), (mh0, .inr (11, [.int 0, .ref mq1, .int 0, .int 0, .int 0, .int 0, .ref mq2, .ref mq3, .ref mq4, .ref mq5, .ref mq6, .ref mq7, .ref mq8, .int 0, .int 0, .ref mq9, .ref mq10, .ref mq11, .ref mq12, .ref mq13, .int 0, .int 0, .ref mq14, .ref mq15, .ref mq16, .int 0, .int 0, .ref mq17, .ref mq18, .int (-1), .int 0, .ref mq19, .int 0, .long 0, .ref mq20, .int 0, .int 0, .ref mq21, .ref mq22, .ref mq23, .int 0])), (mq18, .inl (cI, 5, .inl (upd (fun _ => 0) 0 1)))] := hD
  have hw : r_6 = (-1) := hw
  subst hw
  refine lv_icmp_eq (tgt := 1825) hx hb dL_law_806 (by decide) (fun _ => ?_) (fun c => absurd (by decide) c)
  exact law_end C0 hS (lv_sub hl [0, 4] rfl)
