set_option maxHeartbeats 4000000 in
set_option maxRecDepth 100000 in
theorem law_case_16 {p : Program} {l : Launch} {e : Env} {s : State} {m : MethodId} {below : List Frame} {meth : Method} {c : Code} {b : Nat} {xs : Nat → Int32} {dC : Nat → ClassId} {dI : Nat → Nat → Nat} {cI cJ : ClassId} {xh0 mh0 o0 xq1 xq4 xq6 xq9 xq14 xq19 xq20 xq25 xq30 xq33 xq39 xq45 xq47 xq16 xq17 xq18 mq1 mq2 mq3 mq4 mq5 mq6 mq7 mq8 mq9 mq10 mq11 mq12 mq13 mq14 mq15 mq16 mq17 mq18 mq19 mq20 mq21 mq22 mq23 g0 : Nat} (hl0 : l.stackTraces = false) (C0 : lw_At p s m meth c b 7 xs) (hK : va_K (dC, dI) vwCl [(cI, .int), (cJ, .long)] s) (hF : zF g0 (fun q : Nat => s.heap.size ≤ q) s) (hG : zG (fun q : Nat => s.heap.size ≤ q) s) {H : Heap} {locs : List Loc} (hP : va_P (dC, dI) vwCl [(xh0, .inr (10, [.ref xq1, .ref xq4, .ref xq6, .ref xq9, .ref xq14, .ref xq19, .ref xq20, .ref xq25, .ref xq30, .ref xq33, .ref xq39, .ref xq45, .ref xq47, .int 0, .int (-1), .int 0, .int 0])), (xq14, .inr (1, [.ref xq16, .ref xq17, .ref xq18, .int 0, .int 0])), (xq47, .inl (cI, 5, .inl (fun _ => 0))), (mh0, .inr (11, [.int 0, .ref mq1, .int 0, .int 0, .int 0, .int 0, .ref mq2, .ref mq3, .ref mq4, .ref mq5, .ref mq6, .ref mq7, .ref mq8, .int 0, .int 0, .ref mq9, .ref mq10, .ref mq11, .ref mq12, .ref mq13, .int 0, .int 0, .ref mq14, .ref mq15, .ref mq16, .int 0, .int 0, .ref mq17, .ref mq18, .int (-1), .int 0, .ref mq19, .int 0, .long 0, .ref mq20, .int 0, .int 0, .ref mq21, .ref mq22, .ref mq23, .int 0])), (mq18, .inl (cI, 5, .inl (fun _ => 0)))] H) (hD : va_D (fun q : Nat => s.heap.size ≤ q) [(xh0, .inr (10, [.ref xq1, .ref xq4, .ref xq6, .ref xq9, .ref xq14, .ref xq19, .ref xq20, .ref xq25, .ref xq30, .ref xq33, .ref xq39, .ref xq45, .ref xq47, .int 0, .int (-1), .int 0, .int 0])), (xq14, .inr (1, [.ref xq16, .ref xq17, .ref xq18, .int 0, .int 0])), (xq47, .inl (cI, 5, .inl (fun _ => 0))), (mh0, .inr (11, [.int 0, .ref mq1, .int 0, .int 0, .int 0, .int 0, .ref mq2, .ref mq3, .ref mq4, .ref mq5, .ref mq6, .ref mq7, .ref mq8, .int 0, .int 0, .ref mq9, .ref mq10, .ref mq11, .ref mq12, .ref mq13, .int 0, .int 0, .ref mq14, .ref mq15, .ref mq16, .int 0, .int 0, .ref mq17, .ref mq18, .int (-1), .int 0, .ref mq19, .int 0, .long 0, .ref mq20, .int 0, .int 0, .ref mq21, .ref mq22, .ref mq23, .int 0])), (mq18, .inl (cI, 5, .inl (fun _ => 0)))]) (hS : va_S (fun q : Nat => s.heap.size ≤ q) s.heap H locs) {ls : Array Slot} (hl : lv_has ls 7 [(0, .ref b), (1, .ref xh0), (2, .ref mh0), (3, .ref o0), (4, .int 0)]) : W p l e room_1 s m #[Value.ref b] below meth c H locs 62 13545 (lw_Z below #[Value.ref b] s) (F0 m 811 ls []) := by
  obtain ⟨hx, hb, hr, hml, hown, hts0, hX, hbl, hlocks, hgv⟩ := id C0
  have hts : ∀ w ∈ wA, w.before #[Value.ref b] s = true := fun w h => hts0 w (List.mem_filter.mp h).1
  have hown : s.vm.findClass RL = some m.cls := hown
  have hA : ∀ q : Nat, s.heap.size ≤ q → (fun q : Nat => s.heap.size ≤ q) q := fun _ h => h
  have hbA : ¬ (fun q : Nat => s.heap.size ≤ q) b := Nat.not_le.mpr hbl
  refine lv_aload_n hx hb dL_law_811 rfl (lv_at hl 1 rfl) ?_
  have hPc := hP.sub (ws' := [(xh0, .inr (10, [.ref xq1, .ref xq4, .ref xq6, .ref xq9, .ref xq14, .ref xq19, .ref xq20, .ref xq25, .ref xq30, .ref xq33, .ref xq39, .ref xq45, .ref xq47, .int 0, .int (-1), .int 0, .int 0])), (xq14, .inr (1, [.ref xq16, .ref xq17, .ref xq18, .int 0, .int 0])), (xq47, .inl (cI, 5, .inl (fun _ => 0)))]) [0, 1, 2] rfl
  have hDc := hD.sub (ws' := [(xh0, .inr (10, [.ref xq1, .ref xq4, .ref xq6, .ref xq9, .ref xq14, .ref xq19, .ref xq20, .ref xq25, .ref xq30, .ref xq33, .ref xq39, .ref xq45, .ref xq47, .int 0, .int (-1), .int 0, .int 0])), (xq14, .inr (1, [.ref xq16, .ref xq17, .ref xq18, .int 0, .int 0])), (xq47, .inl (cI, 5, .inl (fun _ => 0)))]) [0, 1, 2] (by decide) rfl
  have hFc := va_free (wc := [(xh0, .inr (10, [.ref xq1, .ref xq4, .ref xq6, .ref xq9, .ref xq14, .ref xq19, .ref xq20, .ref xq25, .ref xq30, .ref xq33, .ref xq39, .ref xq45, .ref xq47, .int 0, .int (-1), .int 0, .int 0])), (xq14, .inr (1, [.ref xq16, .ref xq17, .ref xq18, .int 0, .int 0])), (xq47, .inl (cI, 5, .inl (fun _ => 0)))]) hD hS hA [0, 1, 2] rfl
  refine va_calli (va_runV (As := []) (rest := []) ⟨hx, hb, hml, hown, hts⟩ (c_X10_annul l dC dI cI cJ xh0 xq1 xq4 xq6 xq9 xq14 xq19 xq20 xq25 xq30 xq33 xq39 xq45 xq47 xq16 xq17 xq18 H.size) (cwV 0 hts (zgV qw743 qw744 qw745 qw98 qw746) rfl rfl rfl hd_X10_annul ⟨Nat.le_of_ble_eq_true rfl, Nat.le_of_ble_eq_true rfl⟩) (zPV hPc hK hDc (va_recv hK hP (ci := 10) (q0 := 0) rfl rfl)) rfl rfl hl.1 rfl (lv_room (Nat.le_of_ble_eq_true rfl)) dL_law_812 ⟨Nat.le_of_ble_eq_true rfl, Nat.le_of_ble_eq_true rfl⟩) hS (fun q _ h => hFc q h) hFc (fun r_1 u t H locs ht hvm hw hB hz1 hk1 hS => ?_)
  obtain ⟨hP1, hD1⟩ := hB
  rw [ht] at hP1
  obtain ⟨hP, hD⟩ := va_join (wr := [(mh0, .inr (11, [.int 0, .ref mq1, .int 0, .int 0, .int 0, .int 0, .ref mq2, .ref mq3, .ref mq4, .ref mq5, .ref mq6, .ref mq7, .ref mq8, .int 0, .int 0, .ref mq9, .ref mq10, .ref mq11, .ref mq12, .ref mq13, .int 0, .int 0, .ref mq14, .ref mq15, .ref mq16, .int 0, .int 0, .ref mq17, .ref mq18, .int (-1), .int 0, .ref mq19, .int 0, .long 0, .ref mq20, .int 0, .int 0, .ref mq21, .ref mq22, .ref mq23, .int 0])), (mq18, .inl (cI, 5, .inl (fun _ => 0)))]) (w1 := [(xq14, .inr (1, [.ref xq16, .ref xq17, .ref xq18, .int 0, .int 0])), (xh0, .inr (10, [.ref xq1, .ref xq4, .ref xq6, .ref xq9, .ref xq14, .ref xq19, .ref xq20, .ref xq25, .ref xq30, .ref xq33, .ref xq39, .ref xq45, .ref xq47, .int 0, .int (-1), .int 0, .int 0])), (xq47, .inl (cI, 5, .inl (upd (fun _ => 0) 0 1)))]) hP hD [0, 1, 2] [3, 4] rfl rfl (by decide) (by decide) hk1 hFc hP1 hD1
  have hP : va_P (dC, dI) vwCl [(mh0, .inr (11, [.int 0, .ref mq1, .int 0, .int 0, .int 0, .int 0, .ref mq2, .ref mq3, .ref mq4, .ref mq5, .ref mq6, .ref mq7, .ref mq8, .int 0, .int 0, .ref mq9, .ref mq10, .ref mq11, .ref mq12, .ref mq13, .int 0, .int 0, .ref mq14, .ref mq15, .ref mq16, .int 0, .int 0, .ref mq17, .ref mq18, .int (-1), .int 0, .ref mq19, .int 0, .long 0, .ref mq20, .int 0, .int 0, .ref mq21, .ref mq22, .ref mq23, .int 0])), (mq18, .inl (cI, 5, .inl (fun _ => 0))), (xq14, .inr (1, [.ref xq16, .ref xq17, .ref xq18, .int 0, .int 0])), (xh0, .inr (10, [.ref xq1, .ref xq4, .ref xq6, .ref xq9, .ref xq14, .ref xq19, .ref xq20, .ref xq25, .ref xq30, .ref xq33, .ref xq39, .ref xq45, .ref xq47, .int 0, .int (-1), .int 0, .int 0])), (xq47, .inl (cI, 5, .inl (upd (fun _ => 0) 0 1)))] H := hP
  have hD : va_D (fun q : Nat => s.heap.size ≤ q) [(mh0, .inr (11, [.int 0, .ref mq1, .int 0, .int 0, .int 0, .int 0, .ref mq2, .ref mq3, .ref mq4, .ref mq5, .ref mq6, .ref mq7, .ref mq8, .int 0, .int 0, .ref mq9, .ref mq10, .ref mq11, .ref mq12, .ref mq13, .int 0, .int 0, .ref mq14, .ref mq15, .ref mq16, .int 0, .int 0, .ref mq17, .ref mq18, .int (-1), .int 0, .ref mq19, .int 0, .long 0, .ref mq20, .int 0, .int 0, .ref mq21, .ref mq22, .ref mq23, .int 0])), (mq18, .inl (cI, 5, .inl (fun _ => 0))), (xq14, .inr (1, [.ref xq16, .ref xq17, .ref xq18, .int 0, .int 0])), (xh0, .inr (10, [.ref xq1, .ref xq4, .ref xq6, .ref xq9, .ref xq14, .ref xq19, .ref xq20, .ref xq25, .ref xq30, .ref xq33, .ref xq39, .ref xq45, .ref xq47, .int 0, .int (-1), .int 0, .int 0])), (xq47, .inl (cI, 5, .inl (upd (fun _ => 0) 0 1)))] := hD
  have hw : r_1 = (-1) := hw
  subst hw
  refine lv_aload_n hx hb dL_law_815 rfl (lv_at hl 2 rfl) ?_
  have hPc := hP.sub (ws' := [(mh0, .inr (11, [.int 0, .ref mq1, .int 0, .int 0, .int 0, .int 0, .ref mq2, .ref mq3, .ref mq4, .ref mq5, .ref mq6, .ref mq7, .ref mq8, .int 0, .int 0, .ref mq9, .ref mq10, .ref mq11, .ref mq12, .ref mq13, .int 0, .int 0, .ref mq14, .ref mq15, .ref mq16, .int 0, .int 0, .ref mq17, .ref mq18, .int (-1), .int 0, .ref mq19, .int 0, .long 0, .ref mq20, .int 0, .int 0, .ref mq21, .ref mq22, .ref mq23, .int 0])), (mq18, .inl (cI, 5, .inl (fun _ => 0)))]) [0, 1] rfl
  have hDc := hD.sub (ws' := [(mh0, .inr (11, [.int 0, .ref mq1, .int 0, .int 0, .int 0, .int 0, .ref mq2, .ref mq3, .ref mq4, .ref mq5, .ref mq6, .ref mq7, .ref mq8, .int 0, .int 0, .ref mq9, .ref mq10, .ref mq11, .ref mq12, .ref mq13, .int 0, .int 0, .ref mq14, .ref mq15, .ref mq16, .int 0, .int 0, .ref mq17, .ref mq18, .int (-1), .int 0, .ref mq19, .int 0, .long 0, .ref mq20, .int 0, .int 0, .ref mq21, .ref mq22, .ref mq23, .int 0])), (mq18, .inl (cI, 5, .inl (fun _ => 0)))]) [0, 1] (by decide) rfl
  have hFc := va_free (wc := [(mh0, .inr (11, [.int 0, .ref mq1, .int 0, .int 0, .int 0, .int 0, .ref mq2, .ref mq3, .ref mq4, .ref mq5, .ref mq6, .ref mq7, .ref mq8, .int 0, .int 0, .ref mq9, .ref mq10, .ref mq11, .ref mq12, .ref mq13, .int 0, .int 0, .ref mq14, .ref mq15, .ref mq16, .int 0, .int 0, .ref mq17, .ref mq18, .int (-1), .int 0, .ref mq19, .int 0, .long 0, .ref mq20, .int 0, .int 0, .ref mq21, .ref mq22, .ref mq23, .int 0])), (mq18, .inl (cI, 5, .inl (fun _ => 0)))]) hD hS hA [0, 1] rfl
  refine va_calli (va_runV (As := []) (rest := [.int (-1)]) ⟨hx, hb, hml, hown, hts⟩ (c_X11_annul l dC dI cI cJ mh0 mq1 mq2 mq3 mq4 mq5 mq6 mq7 mq8 mq9 mq10 mq11 mq12 mq13 mq14 mq15 mq16 mq17 mq18 mq19 mq20 mq21 mq22 mq23 H.size) (cwV 0 hts (zgV qw1521 qw1522 qw1523 qw108 qw1524) rfl rfl rfl hd_X11_annul ⟨Nat.le_of_ble_eq_true rfl, Nat.le_of_ble_eq_true rfl⟩) (zPV hPc hK hDc (va_recv hK hP (ci := 11) (q0 := 0) rfl rfl)) rfl rfl hl.1 rfl (lv_room (Nat.le_of_ble_eq_true rfl)) dL_law_816 ⟨Nat.le_of_ble_eq_true rfl, Nat.le_of_ble_eq_true rfl⟩) hS (fun q _ h => hFc q h) hFc (fun r_2 u t H locs ht hvm hw hB hz1 hk1 hS => ?_)
  obtain ⟨hP1, hD1⟩ := hB
  rw [ht] at hP1
  obtain ⟨hP, hD⟩ := va_join (wr := [(xq14, .inr (1, [.ref xq16, .ref xq17, .ref xq18, .int 0, .int 0])), (xh0, .inr (10, [.ref xq1, .ref xq4, .ref xq6, .ref xq9, .ref xq14, .ref xq19, .ref xq20, .ref xq25, .ref xq30, .ref xq33, .ref xq39, .ref xq45, .ref xq47, .int 0, .int (-1), .int 0, .int 0])), (xq47, .inl (cI, 5, .inl (upd (fun _ => 0) 0 1)))]) (w1 := [(mh0, .inr (11, [.int 0, .ref mq1, .int 0, .int 0, .int 0, .int 0, .ref mq2, .ref mq3, .ref mq4, .ref mq5, .ref mq6, .ref mq7, .ref mq8, .int 0, .int 0, .ref mq9, .ref mq10, .ref mq11, .ref mq12, .ref mq13, .int 0, .int 0, .ref mq14, .ref mq15, .ref mq16, .int 0, .int 0, .ref mq17, .ref mq18, .int (-1), .int 0, .ref mq19, .int 0, .long 0, .ref mq20, .int 0, .int 0, .ref mq21, .ref mq22, .ref mq23, .int 0])), (mq18, .inl (cI, 5, .inl (upd (fun _ => 0) 0 1)))]) hP hD [0, 1] [2, 3, 4] rfl rfl (by decide) (by decide) hk1 hFc hP1 hD1
  have hP : va_P (dC, dI) vwCl [(xq14, .inr (1, [.ref xq16, .ref xq17, .ref xq18, .int 0, .int 0])), (xh0, .inr (10, [.ref xq1, .ref xq4, .ref xq6, .ref xq9, .ref xq14, .ref xq19, .ref xq20, .ref xq25, .ref xq30, .ref xq33, .ref xq39, .ref xq45, .ref xq47, .int 0, .int (-1), .int 0, .int 0])), (xq47, .inl (cI, 5, .inl (upd (fun _ => 0) 0 1))), (mh0, .inr (11, [.int 0, .ref mq1, .int 0, .int 0, .int 0, .int 0, .ref mq2, .ref mq3, .ref mq4, .ref mq5, .ref mq6, .ref mq7, .ref mq8, .int 0, .int 0, .ref mq9, .ref mq10, .ref mq11, .ref mq12, .ref mq13, .int 0, .int 0, .ref mq14, .ref mq15, .ref mq16, .int 0, .int 0, .ref mq17, .ref mq18, .int (-1), .int 0, .ref mq19, .int 0, .long 0, .ref mq20, .int 0, .int 0, .ref mq21, .ref mq22, .ref mq23, .int 0])), (mq18, .inl (cI, 5, .inl (upd (fun _ => 0) 0 1)))] H := hP
  have hD : va_D (fun q : Nat => s.heap.size ≤ q) [(xq14, .inr (1, [.ref xq16, .ref xq17, .ref xq18, .int 0, .int 0])), (xh0, .inr (10, [.ref xq1, .ref xq4, .ref xq6, .ref xq9, .ref xq14, .ref xq19, .ref xq20, .ref xq25, .ref xq30, .ref xq33, .ref xq39, .ref xq45, .ref xq47, .int 0, .int (-1), .int 0, .int 0])), (xq47, .inl (cI, 5, .inl (upd (fun _ => 0) 0 1))), (mh0, .inr (11, [.int 0, .ref mq1, .int 0, .int 0, .int 0, .int 0, .ref mq2, .ref mq3, .ref mq4, .ref mq5, .ref mq6, .ref mq7, .ref mq8, .int 0, .int 0, .ref mq9, .ref mq10, .ref mq11, .ref mq12, .ref mq13, .int 0, .int 0, .ref mq14, .ref mq15, .ref mq16, .int 0, .int 0, .ref mq17, .ref mq18, .int (-1), .int 0, .ref mq19, .int 0, .long 0, .ref mq20, .int 0, .int 0, .ref mq21, .ref mq22, .ref mq23, .int 0])), (mq18, .inl (cI, 5, .inl (upd (fun _ => 0) 0 1)))] := hD
  have hw : r_2 = (-1) := hw
  subst hw
  refine lv_icmp_eq (tgt := 1825) hx hb dL_law_819 (by decide) (fun _ => ?_) (fun c => absurd (by decide) c)
  exact law_end C0 hS (lv_sub hl [0, 4] rfl)
set_option maxHeartbeats 4000000 in
set_option maxRecDepth 100000 in
theorem law_case_17 {p : Program} {l : Launch} {e : Env} {s : State} {m : MethodId} {below : List Frame} {meth : Method} {c : Code} {b : Nat} {xs : Nat → Int32} {dC : Nat → ClassId} {dI : Nat → Nat → Nat} {cI cJ : ClassId} {xh0 mh0 o0 xq1 xq4 xq6 xq9 xq14 xq19 xq20 xq25 xq30 xq33 xq39 xq45 xq47 xq16 xq17 xq18 mq1 mq2 mq3 mq4 mq5 mq6 mq7 mq8 mq9 mq10 mq11 mq12 mq13 mq14 mq15 mq16 mq17 mq18 mq19 mq20 mq21 mq22 mq23 g0 : Nat} (hl0 : l.stackTraces = false) (C0 : lw_At p s m meth c b 7 xs) (hK : va_K (dC, dI) vwCl [(cI, .int), (cJ, .long)] s) (hF : zF g0 (fun q : Nat => s.heap.size ≤ q) s) (hG : zG (fun q : Nat => s.heap.size ≤ q) s) {H : Heap} {locs : List Loc} (hP : va_P (dC, dI) vwCl [(xh0, .inr (10, [.ref xq1, .ref xq4, .ref xq6, .ref xq9, .ref xq14, .ref xq19, .ref xq20, .ref xq25, .ref xq30, .ref xq33, .ref xq39, .ref xq45, .ref xq47, .int 0, .int (-1), .int 0, .int 0])), (xq14, .inr (1, [.ref xq16, .ref xq17, .ref xq18, .int 0, .int 0])), (xq47, .inl (cI, 5, .inl (fun _ => 0))), (mh0, .inr (11, [.int 0, .ref mq1, .int 0, .int 0, .int 0, .int 0, .ref mq2, .ref mq3, .ref mq4, .ref mq5, .ref mq6, .ref mq7, .ref mq8, .int 0, .int 0, .ref mq9, .ref mq10, .ref mq11, .ref mq12, .ref mq13, .int 0, .int 0, .ref mq14, .ref mq15, .ref mq16, .int 0, .int 0, .ref mq17, .ref mq18, .int (-1), .int 0, .ref mq19, .int 0, .long 0, .ref mq20, .int 0, .int 0, .ref mq21, .ref mq22, .ref mq23, .int 0])), (mq18, .inl (cI, 5, .inl (fun _ => 0)))] H) (hD : va_D (fun q : Nat => s.heap.size ≤ q) [(xh0, .inr (10, [.ref xq1, .ref xq4, .ref xq6, .ref xq9, .ref xq14, .ref xq19, .ref xq20, .ref xq25, .ref xq30, .ref xq33, .ref xq39, .ref xq45, .ref xq47, .int 0, .int (-1), .int 0, .int 0])), (xq14, .inr (1, [.ref xq16, .ref xq17, .ref xq18, .int 0, .int 0])), (xq47, .inl (cI, 5, .inl (fun _ => 0))), (mh0, .inr (11, [.int 0, .ref mq1, .int 0, .int 0, .int 0, .int 0, .ref mq2, .ref mq3, .ref mq4, .ref mq5, .ref mq6, .ref mq7, .ref mq8, .int 0, .int 0, .ref mq9, .ref mq10, .ref mq11, .ref mq12, .ref mq13, .int 0, .int 0, .ref mq14, .ref mq15, .ref mq16, .int 0, .int 0, .ref mq17, .ref mq18, .int (-1), .int 0, .ref mq19, .int 0, .long 0, .ref mq20, .int 0, .int 0, .ref mq21, .ref mq22, .ref mq23, .int 0])), (mq18, .inl (cI, 5, .inl (fun _ => 0)))]) (hS : va_S (fun q : Nat => s.heap.size ≤ q) s.heap H locs) {ls : Array Slot} (hl : lv_has ls 7 [(0, .ref b), (1, .ref xh0), (2, .ref mh0), (3, .ref o0), (4, .int 0)]) : W p l e room_1 s m #[Value.ref b] below meth c H locs 62 13545 (lw_Z below #[Value.ref b] s) (F0 m 824 ls []) := by
  obtain ⟨hx, hb, hr, hml, hown, hts0, hX, hbl, hlocks, hgv⟩ := id C0
  have hts : ∀ w ∈ wA, w.before #[Value.ref b] s = true := fun w h => hts0 w (List.mem_filter.mp h).1
  have hown : s.vm.findClass RL = some m.cls := hown
  have hA : ∀ q : Nat, s.heap.size ≤ q → (fun q : Nat => s.heap.size ≤ q) q := fun _ h => h
  have hbA : ¬ (fun q : Nat => s.heap.size ≤ q) b := Nat.not_le.mpr hbl
  refine lv_aload_n hx hb dL_law_824 rfl (lv_at hl 1 rfl) ?_
  refine lv_aload_n hx hb dL_law_825 rfl (lv_at hl 0 rfl) ?_
  refine lv_iload hx hb dL_law_826 (lv_at hl 4 rfl) ?_
  refine lv_iconst (v := 1) hx hb dL_law_828 (by decide) ?_
  refine lv_iadd hx hb dL_law_829 ?_
  refine lv_topi (fun v_1 ev_1 => ?_)
  obtain rfl : v_1 = 1 := ev_1.trans (by decide)
  refine va_sld hx hb hX hbl hbA hS (by unfold vp_in; decide) dL_law_830 ?_
  refine lv_topi (fun v_2 ev_2 => ?_)
  obtain rfl : v_2 = xs 1 := ev_2
  have hPc := hP.sub (ws' := [(xh0, .inr (10, [.ref xq1, .ref xq4, .ref xq6, .ref xq9, .ref xq14, .ref xq19, .ref xq20, .ref xq25, .ref xq30, .ref xq33, .ref xq39, .ref xq45, .ref xq47, .int 0, .int (-1), .int 0, .int 0])), (xq14, .inr (1, [.ref xq16, .ref xq17, .ref xq18, .int 0, .int 0])), (xq47, .inl (cI, 5, .inl (fun _ => 0)))]) [0, 1, 2] rfl
  have hDc := hD.sub (ws' := [(xh0, .inr (10, [.ref xq1, .ref xq4, .ref xq6, .ref xq9, .ref xq14, .ref xq19, .ref xq20, .ref xq25, .ref xq30, .ref xq33, .ref xq39, .ref xq45, .ref xq47, .int 0, .int (-1), .int 0, .int 0])), (xq14, .inr (1, [.ref xq16, .ref xq17, .ref xq18, .int 0, .int 0])), (xq47, .inl (cI, 5, .inl (fun _ => 0)))]) [0, 1, 2] (by decide) rfl
  have hFc := va_free (wc := [(xh0, .inr (10, [.ref xq1, .ref xq4, .ref xq6, .ref xq9, .ref xq14, .ref xq19, .ref xq20, .ref xq25, .ref xq30, .ref xq33, .ref xq39, .ref xq45, .ref xq47, .int 0, .int (-1), .int 0, .int 0])), (xq14, .inr (1, [.ref xq16, .ref xq17, .ref xq18, .int 0, .int 0])), (xq47, .inl (cI, 5, .inl (fun _ => 0)))]) hD hS hA [0, 1, 2] rfl
  refine va_calli (va_runV (As := [.int (xs 1)]) (rest := []) ⟨hx, hb, hml, hown, hts⟩ (c_X10_months l dC dI cI cJ xh0 xq1 xq4 xq6 xq9 xq14 xq19 xq20 xq25 xq30 xq33 xq39 xq45 xq47 xq16 xq17 xq18 H.size (xs 1)) (cwV 1 hts (zgV qw759 qw760 qw761 qw98 qw762) rfl rfl rfl hd_X10_months ⟨Nat.le_of_ble_eq_true rfl, Nat.le_of_ble_eq_true rfl⟩) (zPV hPc hK hDc (va_recv hK hP (ci := 10) (q0 := 0) rfl rfl)) rfl rfl hl.1 rfl (lv_room (Nat.le_of_ble_eq_true rfl)) dL_law_831 ⟨Nat.le_of_ble_eq_true rfl, Nat.le_of_ble_eq_true rfl⟩) hS (fun q _ h => hFc q h) hFc (fun r_3 u t H locs ht hvm hw hB hz1 hk1 hS => ?_)
  obtain ⟨hP1, hD1⟩ := hB
  rw [ht] at hP1
  obtain ⟨hP, hD⟩ := va_join (wr := [(mh0, .inr (11, [.int 0, .ref mq1, .int 0, .int 0, .int 0, .int 0, .ref mq2, .ref mq3, .ref mq4, .ref mq5, .ref mq6, .ref mq7, .ref mq8, .int 0, .int 0, .ref mq9, .ref mq10, .ref mq11, .ref mq12, .ref mq13, .int 0, .int 0, .ref mq14, .ref mq15, .ref mq16, .int 0, .int 0, .ref mq17, .ref mq18, .int (-1), .int 0, .ref mq19, .int 0, .long 0, .ref mq20, .int 0, .int 0, .ref mq21, .ref mq22, .ref mq23, .int 0])), (mq18, .inl (cI, 5, .inl (fun _ => 0)))]) (w1 := [(xq14, .inr (1, [.ref xq16, .ref xq17, .ref xq18, .int 0, .int 0])), (xh0, .inr (10, [.ref xq1, .ref xq4, .ref xq6, .ref xq9, .ref xq14, .ref xq19, .ref xq20, .ref xq25, .ref xq30, .ref xq33, .ref xq39, .ref xq45, .ref xq47, .int 0, .int (-1), .int 0, .int 0])), (xq47, .inl (cI, 5, .inl (upd (fun _ => 0) 0 1)))]) hP hD [0, 1, 2] [3, 4] rfl rfl (by decide) (by decide) hk1 hFc hP1 hD1
  have hP : va_P (dC, dI) vwCl [(mh0, .inr (11, [.int 0, .ref mq1, .int 0, .int 0, .int 0, .int 0, .ref mq2, .ref mq3, .ref mq4, .ref mq5, .ref mq6, .ref mq7, .ref mq8, .int 0, .int 0, .ref mq9, .ref mq10, .ref mq11, .ref mq12, .ref mq13, .int 0, .int 0, .ref mq14, .ref mq15, .ref mq16, .int 0, .int 0, .ref mq17, .ref mq18, .int (-1), .int 0, .ref mq19, .int 0, .long 0, .ref mq20, .int 0, .int 0, .ref mq21, .ref mq22, .ref mq23, .int 0])), (mq18, .inl (cI, 5, .inl (fun _ => 0))), (xq14, .inr (1, [.ref xq16, .ref xq17, .ref xq18, .int 0, .int 0])), (xh0, .inr (10, [.ref xq1, .ref xq4, .ref xq6, .ref xq9, .ref xq14, .ref xq19, .ref xq20, .ref xq25, .ref xq30, .ref xq33, .ref xq39, .ref xq45, .ref xq47, .int 0, .int (-1), .int 0, .int 0])), (xq47, .inl (cI, 5, .inl (upd (fun _ => 0) 0 1)))] H := hP
  have hD : va_D (fun q : Nat => s.heap.size ≤ q) [(mh0, .inr (11, [.int 0, .ref mq1, .int 0, .int 0, .int 0, .int 0, .ref mq2, .ref mq3, .ref mq4, .ref mq5, .ref mq6, .ref mq7, .ref mq8, .int 0, .int 0, .ref mq9, .ref mq10, .ref mq11, .ref mq12, .ref mq13, .int 0, .int 0, .ref mq14, .ref mq15, .ref mq16, .int 0, .int 0, .ref mq17, .ref mq18, .int (-1), .int 0, .ref mq19, .int 0, .long 0, .ref mq20, .int 0, .int 0, .ref mq21, .ref mq22, .ref mq23, .int 0])), (mq18, .inl (cI, 5, .inl (fun _ => 0))), (xq14, .inr (1, [.ref xq16, .ref xq17, .ref xq18, .int 0, .int 0])), (xh0, .inr (10, [.ref xq1, .ref xq4, .ref xq6, .ref xq9, .ref xq14, .ref xq19, .ref xq20, .ref xq25, .ref xq30, .ref xq33, .ref xq39, .ref xq45, .ref xq47, .int 0, .int (-1), .int 0, .int 0])), (xq47, .inl (cI, 5, .inl (upd (fun _ => 0) 0 1)))] := hD
  have hw : r_3 = (-1) := hw
  subst hw
  refine lv_aload_n hx hb dL_law_834 rfl (lv_at hl 2 rfl) ?_
  refine lv_aload_n hx hb dL_law_835 rfl (lv_at hl 0 rfl) ?_
  refine lv_iload hx hb dL_law_836 (lv_at hl 4 rfl) ?_
  refine lv_iconst (v := 1) hx hb dL_law_838 (by decide) ?_
  refine lv_iadd hx hb dL_law_839 ?_
  refine lv_topi (fun v_4 ev_4 => ?_)
  obtain rfl : v_4 = 1 := ev_4.trans (by decide)
  refine va_sld hx hb hX hbl hbA hS (by unfold vp_in; decide) dL_law_840 ?_
  refine lv_topi (fun v_5 ev_5 => ?_)
  obtain rfl : v_5 = xs 1 := ev_5
  have hPc := hP.sub (ws' := [(mh0, .inr (11, [.int 0, .ref mq1, .int 0, .int 0, .int 0, .int 0, .ref mq2, .ref mq3, .ref mq4, .ref mq5, .ref mq6, .ref mq7, .ref mq8, .int 0, .int 0, .ref mq9, .ref mq10, .ref mq11, .ref mq12, .ref mq13, .int 0, .int 0, .ref mq14, .ref mq15, .ref mq16, .int 0, .int 0, .ref mq17, .ref mq18, .int (-1), .int 0, .ref mq19, .int 0, .long 0, .ref mq20, .int 0, .int 0, .ref mq21, .ref mq22, .ref mq23, .int 0])), (mq18, .inl (cI, 5, .inl (fun _ => 0)))]) [0, 1] rfl
  have hDc := hD.sub (ws' := [(mh0, .inr (11, [.int 0, .ref mq1, .int 0, .int 0, .int 0, .int 0, .ref mq2, .ref mq3, .ref mq4, .ref mq5, .ref mq6, .ref mq7, .ref mq8, .int 0, .int 0, .ref mq9, .ref mq10, .ref mq11, .ref mq12, .ref mq13, .int 0, .int 0, .ref mq14, .ref mq15, .ref mq16, .int 0, .int 0, .ref mq17, .ref mq18, .int (-1), .int 0, .ref mq19, .int 0, .long 0, .ref mq20, .int 0, .int 0, .ref mq21, .ref mq22, .ref mq23, .int 0])), (mq18, .inl (cI, 5, .inl (fun _ => 0)))]) [0, 1] (by decide) rfl
  have hFc := va_free (wc := [(mh0, .inr (11, [.int 0, .ref mq1, .int 0, .int 0, .int 0, .int 0, .ref mq2, .ref mq3, .ref mq4, .ref mq5, .ref mq6, .ref mq7, .ref mq8, .int 0, .int 0, .ref mq9, .ref mq10, .ref mq11, .ref mq12, .ref mq13, .int 0, .int 0, .ref mq14, .ref mq15, .ref mq16, .int 0, .int 0, .ref mq17, .ref mq18, .int (-1), .int 0, .ref mq19, .int 0, .long 0, .ref mq20, .int 0, .int 0, .ref mq21, .ref mq22, .ref mq23, .int 0])), (mq18, .inl (cI, 5, .inl (fun _ => 0)))]) hD hS hA [0, 1] rfl
  refine va_calli (va_runV (As := [.int (xs 1)]) (rest := [.int (-1)]) ⟨hx, hb, hml, hown, hts⟩ (c_X11_months l dC dI cI cJ mh0 mq1 mq2 mq3 mq4 mq5 mq6 mq7 mq8 mq9 mq10 mq11 mq12 mq13 mq14 mq15 mq16 mq17 mq18 mq19 mq20 mq21 mq22 mq23 H.size (xs 1)) (cwV 1 hts (zgV qw1533 qw1534 qw1535 qw108 qw1536) rfl rfl rfl hd_X11_months ⟨Nat.le_of_ble_eq_true rfl, Nat.le_of_ble_eq_true rfl⟩) (zPV hPc hK hDc (va_recv hK hP (ci := 11) (q0 := 0) rfl rfl)) rfl rfl hl.1 rfl (lv_room (Nat.le_of_ble_eq_true rfl)) dL_law_841 ⟨Nat.le_of_ble_eq_true rfl, Nat.le_of_ble_eq_true rfl⟩) hS (fun q _ h => hFc q h) hFc (fun r_6 u t H locs ht hvm hw hB hz1 hk1 hS => ?_)
  obtain ⟨hP1, hD1⟩ := hB
  rw [ht] at hP1
  obtain ⟨hP, hD⟩ := va_join (wr := [(xq14, .inr (1, [.ref xq16, .ref xq17, .ref xq18, .int 0, .int 0])), (xh0, .inr (10, [.ref xq1, .ref xq4, .ref xq6, .ref xq9, .ref xq14, .ref xq19, .ref xq20, .ref xq25, .ref xq30, .ref xq33, .ref xq39, .ref xq45, .ref xq47, .int 0, .int (-1), .int 0, .int 0])), (xq47, .inl (cI, 5, .inl (upd (fun _ => 0) 0 1)))]) (w1 := [(mh0, .inr (11, [.int 0, .ref mq1, .int 0, .int 0, .int 0, .int 0, .ref mq2, .ref mq3, .ref mq4, .ref mq5, .ref mq6, .ref mq7, .ref mq8, .int 0, .int 0, .ref mq9, .ref mq10, .ref mq11, .ref mq12, .ref mq13, .int 0, .int 0, .ref mq14, .ref mq15, .ref mq16, .int 0, .int 0, .ref mq17, .ref mq18, .int (-1), .int 0, .ref mq19, .int 0, .long 0, .ref mq20, .int 0, .int 0, .ref mq21, .ref mq22, .ref mq23, .int 0])), (mq18, .inl (cI, 5, .inl (upd (fun _ => 0) 0 1)))]) hP hD [0, 1] [2, 3, 4] rfl rfl (by decide) (by decide) hk1 hFc hP1 hD1
  have hP : va_P (dC, dI) vwCl [(xq14, .inr (1, [.ref xq16, .ref xq17, .ref xq18, .int 0, .int 0])), (xh0, .inr (10, [.ref xq1, .ref xq4, .ref xq6, .ref xq9, .ref xq14, .ref xq19, .ref xq20, .ref xq25, .ref xq30, .ref xq33, .ref xq39, .ref xq45, .ref xq47, .int 0, .int (-1), .int 0, .int 0])), (xq47, .inl (cI, 5, .inl (upd (fun _ => 0) 0 1))), (mh0, .inr (11, [.int 0, .ref mq1, .int 0, .int 0, .int 0, .int 0, .ref mq2, .ref mq3, .ref mq4, .ref mq5, .ref mq6, .ref mq7, .ref mq8, .int 0, .int 0, .ref mq9, .ref mq10, .ref mq11, .ref mq12, .ref mq13, .int 0, .int 0, .ref mq14, .ref mq15, .ref mq16, .int 0, .int 0, .ref mq17, .ref mq18, .int (-1), .int 0, .ref mq19, .int 0, .long 0, .ref mq20, .int 0, .int 0, .ref mq21, .ref mq22, .ref mq23, .int 0])), (mq18, .inl (cI, 5, .inl (upd (fun _ => 0) 0 1)))] H := hP
  have hD : va_D (fun q : Nat => s.heap.size ≤ q) [(xq14, .inr (1, [.ref xq16, .ref xq17, .ref xq18, .int 0, .int 0])), (xh0, .inr (10, [.ref xq1, .ref xq4, .ref xq6, .ref xq9, .ref xq14, .ref xq19, .ref xq20, .ref xq25, .ref xq30, .ref xq33, .ref xq39, .ref xq45, .ref xq47, .int 0, .int (-1), .int 0, .int 0])), (xq47, .inl (cI, 5, .inl (upd (fun _ => 0) 0 1))), (mh0, .inr (11, [.int 0, .ref mq1, .int 0, .int 0, .int 0, .int 0, .ref mq2, .ref mq3, .ref mq4, .ref mq5, .ref mq6, .ref mq7, .ref mq8, .int 0, .int 0, .ref mq9, .ref mq10, .ref mq11, .ref mq12, .ref mq13, .int 0, .int 0, .ref mq14, .ref mq15, .ref mq16, .int 0, .int 0, .ref mq17, .ref mq18, .int (-1), .int 0, .ref mq19, .int 0, .long 0, .ref mq20, .int 0, .int 0, .ref mq21, .ref mq22, .ref mq23, .int 0])), (mq18, .inl (cI, 5, .inl (upd (fun _ => 0) 0 1)))] := hD
  have hw : r_6 = (-1) := hw
  subst hw
  refine lv_icmp_eq (tgt := 1825) hx hb dL_law_844 (by decide) (fun _ => ?_) (fun c => absurd (by decide) c)
  exact law_end C0 hS (lv_sub hl [0, 4] rfl)
set_option maxHeartbeats 4000000 in
set_option maxRecDepth 100000 in
theorem law_case_18 {p : Program} {l : Launch} {e : Env} {s : State} {m : MethodId} {below : List Frame} {meth : Method} {c : Code} {b : Nat} {xs : Nat → Int32} {dC : Nat → ClassId} {dI : Nat → Nat → Nat} {cI cJ : ClassId} {xh0 mh0 o0 xq1 xq4 xq6 xq9 xq14 xq19 xq20 xq25 xq30 xq33 xq39 xq45 xq47 mq1 mq2 mq3 mq4 mq5 mq6 mq7 mq8 mq9 mq10 mq11 mq12 mq13 mq14 mq15 mq16 mq17 mq18 mq19 mq20 mq21 mq22 mq23 g0 : Nat} (hl0 : l.stackTraces = false) (C0 : lw_At p s m meth c b 7 xs) (hK : va_K (dC, dI) vwCl [(cI, .int), (cJ, .long)] s) (hF : zF g0 (fun q : Nat => s.heap.size ≤ q) s) (hG : zG (fun q : Nat => s.heap.size ≤ q) s) {H : Heap} {locs : List Loc} (hP : va_P (dC, dI) vwCl [(xh0, .inr (10, [.ref xq1, .ref xq4, .ref xq6, .ref xq9, .ref xq14, .ref xq19, .ref xq20, .ref xq25, .ref xq30, .ref xq33, .ref xq39, .ref xq45, .ref xq47, .int 0, .int (-1), .int 0, .int 0])), (mh0, .inr (11, [.int 0, .ref mq1, .int 0, .int 0, .int 0, .int 0, .ref mq2, .ref mq3, .ref mq4, .ref mq5, .ref mq6, .ref mq7, .ref mq8, .int 0, .int 0, .ref mq9, .ref mq10, .ref mq11, .ref mq12, .ref mq13, .int 0, .int 0, .ref mq14, .ref mq15, .ref mq16, .int 0, .int 0, .ref mq17, .ref mq18, .int (-1), .int 0, .ref mq19, .int 0, .long 0, .ref mq20, .int 0, .int 0, .ref mq21, .ref mq22, .ref mq23, .int 0]))] H) (hD : va_D (fun q : Nat => s.heap.size ≤ q) [(xh0, .inr (10, [.ref xq1, .ref xq4, .ref xq6, .ref xq9, .ref xq14, .ref xq19, .ref xq20, .ref xq25, .ref xq30, .ref xq33, .ref xq39, .ref xq45, .ref xq47, .int 0, .int (-1), .int 0, .int 0])), (mh0, .inr (11, [.int 0, .ref mq1, .int 0, .int 0, .int 0, .int 0, .ref mq2, .ref mq3, .ref mq4, .ref mq5, .ref mq6, .ref mq7, .ref mq8, .int 0, .int 0, .ref mq9, .ref mq10, .ref mq11, .ref mq12, .ref mq13, .int 0, .int 0, .ref mq14, .ref mq15, .ref mq16, .int 0, .int 0, .ref mq17, .ref mq18, .int (-1), .int 0, .ref mq19, .int 0, .long 0, .ref mq20, .int 0, .int 0, .ref mq21, .ref mq22, .ref mq23, .int 0]))]) (hS : va_S (fun q : Nat => s.heap.size ≤ q) s.heap H locs) {ls : Array Slot} (hl : lv_has ls 7 [(0, .ref b), (1, .ref xh0), (2, .ref mh0), (3, .ref o0), (4, .int 0)]) : W p l e room_1 s m #[Value.ref b] below meth c H locs 62 13545 (lw_Z below #[Value.ref b] s) (F0 m 849 ls []) := by
  obtain ⟨hx, hb, hr, hml, hown, hts0, hX, hbl, hlocks, hgv⟩ := id C0
  have hts : ∀ w ∈ wA, w.before #[Value.ref b] s = true := fun w h => hts0 w (List.mem_filter.mp h).1
  have hown : s.vm.findClass RL = some m.cls := hown
  have hA : ∀ q : Nat, s.heap.size ≤ q → (fun q : Nat => s.heap.size ≤ q) q := fun _ h => h
  have hbA : ¬ (fun q : Nat => s.heap.size ≤ q) b := Nat.not_le.mpr hbl
  refine lv_aload_n hx hb dL_law_849 rfl (lv_at hl 1 rfl) ?_
  refine lv_aload_n hx hb dL_law_850 rfl (lv_at hl 0 rfl) ?_
  refine lv_iload hx hb dL_law_851 (lv_at hl 4 rfl) ?_
  refine lv_iconst (v := 1) hx hb dL_law_853 (by decide) ?_
  refine lv_iadd hx hb dL_law_854 ?_
  refine lv_topi (fun v_1 ev_1 => ?_)
  obtain rfl : v_1 = 1 := ev_1.trans (by decide)
  refine va_sld hx hb hX hbl hbA hS (by unfold vp_in; decide) dL_law_855 ?_
  refine lv_topi (fun v_2 ev_2 => ?_)
  obtain rfl : v_2 = xs 1 := ev_2
  have hPc := hP.sub (ws' := [(xh0, .inr (10, [.ref xq1, .ref xq4, .ref xq6, .ref xq9, .ref xq14, .ref xq19, .ref xq20, .ref xq25, .ref xq30, .ref xq33, .ref xq39, .ref xq45, .ref xq47, .int 0, .int (-1), .int 0, .int 0]))]) [0] rfl
  have hDc := hD.sub (ws' := [(xh0, .inr (10, [.ref xq1, .ref xq4, .ref xq6, .ref xq9, .ref xq14, .ref xq19, .ref xq20, .ref xq25, .ref xq30, .ref xq33, .ref xq39, .ref xq45, .ref xq47, .int 0, .int (-1), .int 0, .int 0]))]) [0] (by decide) rfl
  have hFc := va_free (wc := [(xh0, .inr (10, [.ref xq1, .ref xq4, .ref xq6, .ref xq9, .ref xq14, .ref xq19, .ref xq20, .ref xq25, .ref xq30, .ref xq33, .ref xq39, .ref xq45, .ref xq47, .int 0, .int (-1), .int 0, .int 0]))]) hD hS hA [0] rfl
  refine va_calli (va_runV (As := [.int (xs 1)]) (rest := []) ⟨hx, hb, hml, hown, hts⟩ (c_X10_bribes l dC dI cI cJ xh0 xq1 xq4 xq6 xq9 xq14 xq19 xq20 xq25 xq30 xq33 xq39 xq45 xq47 H.size (xs 1)) (cwV 1 hts (zgV qw768 qw769 qw770 qw98 qw771) rfl rfl rfl hd_X10_bribes ⟨Nat.le_of_ble_eq_true rfl, Nat.le_of_ble_eq_true rfl⟩) (zPV hPc hK hDc (va_recv hK hP (ci := 10) (q0 := 0) rfl rfl)) rfl rfl hl.1 rfl (lv_room (Nat.le_of_ble_eq_true rfl)) dL_law_856 ⟨Nat.le_of_ble_eq_true rfl, Nat.le_of_ble_eq_true rfl⟩) hS (fun q _ h => hFc q h) hFc (fun r_3 u t H locs ht hvm hw hB hz1 hk1 hS => ?_)
  obtain ⟨hP, hD⟩ := va_join (wr := [(mh0, .inr (11, [.int 0, .ref mq1, .int 0, .int 0, .int 0, .int 0, .ref mq2, .ref mq3, .ref mq4, .ref mq5, .ref mq6, .ref mq7, .ref mq8, .int 0, .int 0, .ref mq9, .ref mq10, .ref mq11, .ref mq12, .ref mq13, .int 0, .int 0, .ref mq14, .ref mq15, .ref mq16, .int 0, .int 0, .ref mq17, .ref mq18, .int (-1), .int 0, .ref mq19, .int 0, .long 0, .ref mq20, .int 0, .int 0, .ref mq21, .ref mq22, .ref mq23, .int 0]))]) (w1 := []) hP hD [0] [1] rfl rfl (by decide) (by decide) hk1 hFc zP0 zD0
  have hP : va_P (dC, dI) vwCl [(mh0, .inr (11, [.int 0, .ref mq1, .int 0, .int 0, .int 0, .int 0, .ref mq2, .ref mq3, .ref mq4, .ref mq5, .ref mq6, .ref mq7, .ref mq8, .int 0, .int 0, .ref mq9, .ref mq10, .ref mq11, .ref mq12, .ref mq13, .int 0, .int 0, .ref mq14, .ref mq15, .ref mq16, .int 0, .int 0, .ref mq17, .ref mq18, .int (-1), .int 0, .ref mq19, .int 0, .long 0, .ref mq20, .int 0, .int 0, .ref mq21, .ref mq22, .ref mq23, .int 0]))] H := hP
  have hD : va_D (fun q : Nat => s.heap.size ≤ q) [(mh0, .inr (11, [.int 0, .ref mq1, .int 0, .int 0, .int 0, .int 0, .ref mq2, .ref mq3, .ref mq4, .ref mq5, .ref mq6, .ref mq7, .ref mq8, .int 0, .int 0, .ref mq9, .ref mq10, .ref mq11, .ref mq12, .ref mq13, .int 0, .int 0, .ref mq14, .ref mq15, .ref mq16, .int 0, .int 0, .ref mq17, .ref mq18, .int (-1), .int 0, .ref mq19, .int 0, .long 0, .ref mq20, .int 0, .int 0, .ref mq21, .ref mq22, .ref mq23, .int 0]))] := hD
  rcases hw with ⟨c_3_0, rfl⟩ | ⟨c_3_0, c_3_1, rfl⟩ | ⟨c_3_0, c_3_1, c_3_2, rfl⟩ | ⟨c_3_0, c_3_1, c_3_2, rfl⟩
  · skip
    have i_3_0 : (xs 1).toInt < 0 := z1 rfl (by decide) c_3_0
    refine lv_aload_n hx hb dL_law_859 rfl (lv_at hl 2 rfl) ?_
    refine lv_aload_n hx hb dL_law_860 rfl (lv_at hl 0 rfl) ?_
    refine lv_iload hx hb dL_law_861 (lv_at hl 4 rfl) ?_
    refine lv_iconst (v := 1) hx hb dL_law_863 (by decide) ?_
    refine lv_iadd hx hb dL_law_864 ?_
    refine lv_topi (fun v_4 ev_4 => ?_)
    obtain rfl : v_4 = 1 := ev_4.trans (by decide)
    refine va_sld hx hb hX hbl hbA hS (by unfold vp_in; decide) dL_law_865 ?_
    refine lv_topi (fun v_5 ev_5 => ?_)
    obtain rfl : v_5 = xs 1 := ev_5
    have hPc := hP.sub (ws' := [(mh0, .inr (11, [.int 0, .ref mq1, .int 0, .int 0, .int 0, .int 0, .ref mq2, .ref mq3, .ref mq4, .ref mq5, .ref mq6, .ref mq7, .ref mq8, .int 0, .int 0, .ref mq9, .ref mq10, .ref mq11, .ref mq12, .ref mq13, .int 0, .int 0, .ref mq14, .ref mq15, .ref mq16, .int 0, .int 0, .ref mq17, .ref mq18, .int (-1), .int 0, .ref mq19, .int 0, .long 0, .ref mq20, .int 0, .int 0, .ref mq21, .ref mq22, .ref mq23, .int 0]))]) [0] rfl
    have hDc := hD.sub (ws' := [(mh0, .inr (11, [.int 0, .ref mq1, .int 0, .int 0, .int 0, .int 0, .ref mq2, .ref mq3, .ref mq4, .ref mq5, .ref mq6, .ref mq7, .ref mq8, .int 0, .int 0, .ref mq9, .ref mq10, .ref mq11, .ref mq12, .ref mq13, .int 0, .int 0, .ref mq14, .ref mq15, .ref mq16, .int 0, .int 0, .ref mq17, .ref mq18, .int (-1), .int 0, .ref mq19, .int 0, .long 0, .ref mq20, .int 0, .int 0, .ref mq21, .ref mq22, .ref mq23, .int 0]))]) [0] (by decide) rfl
    have hFc := va_free (wc := [(mh0, .inr (11, [.int 0, .ref mq1, .int 0, .int 0, .int 0, .int 0, .ref mq2, .ref mq3, .ref mq4, .ref mq5, .ref mq6, .ref mq7, .ref mq8, .int 0, .int 0, .ref mq9, .ref mq10, .ref mq11, .ref mq12, .ref mq13, .int 0, .int 0, .ref mq14, .ref mq15, .ref mq16, .int 0, .int 0, .ref mq17, .ref mq18, .int (-1), .int 0, .ref mq19, .int 0, .long 0, .ref mq20, .int 0, .int 0, .ref mq21, .ref mq22, .ref mq23, .int 0]))]) hD hS hA [0] rfl
    refine va_calli (va_runV (As := [.int (xs 1)]) (rest := [.int 0]) ⟨hx, hb, hml, hown, hts⟩ (c_X11_bribes l dC dI cI cJ mh0 mq1 mq2 mq3 mq4 mq5 mq6 mq7 mq8 mq9 mq10 mq11 mq12 mq13 mq14 mq15 mq16 mq17 mq18 mq19 mq20 mq21 mq22 mq23 H.size (xs 1)) (cwV 1 hts (zgV qw1545 qw1546 qw1547 qw108 qw1548) rfl rfl rfl hd_X11_bribes ⟨Nat.le_of_ble_eq_true rfl, Nat.le_of_ble_eq_true rfl⟩) (zPV hPc hK hDc (va_recv hK hP (ci := 11) (q0 := 0) rfl rfl)) rfl rfl hl.1 rfl (lv_room (Nat.le_of_ble_eq_true rfl)) dL_law_866 ⟨Nat.le_of_ble_eq_true rfl, Nat.le_of_ble_eq_true rfl⟩) hS (fun q _ h => hFc q h) hFc (fun r_6 u t H locs ht hvm hw hB hz1 hk1 hS => ?_)
    obtain ⟨hP, hD⟩ := va_join (wr := []) (w1 := []) hP hD [0] [] rfl rfl (by decide) (by decide) hk1 hFc zP0 zD0
    have hP : va_P (dC, dI) vwCl [] H := hP
    have hD : va_D (fun q : Nat => s.heap.size ≤ q) [] := hD
    rcases hw with ⟨c_6_0, rfl⟩ | ⟨c_6_0, c_6_1, rfl⟩ | ⟨c_6_0, c_6_1, c_6_2, rfl⟩ | ⟨c_6_0, c_6_1, c_6_2, rfl⟩
    · skip
      have i_6_0 : (xs 1).toInt < 0 := z1 rfl (by decide) c_6_0
      refine lv_icmp_eq (tgt := 1825) hx hb dL_law_869 (by decide) (fun _ => ?_) (fun c => absurd (by decide) c)
      exact law_end C0 hS (lv_sub hl [0, 4] rfl)
    · skip
      have i_6_0 : 0 ≤ (xs 1).toInt := z2 rfl (by decide) c_6_0
      have i_6_1 : 9 < (xs 1).toInt := z1 (by decide) rfl c_6_1
      exfalso; omega
    · skip
      have i_6_0 : 0 ≤ (xs 1).toInt := z2 rfl (by decide) c_6_0
      have i_6_1 : (xs 1).toInt ≤ 9 := z2 (by decide) rfl c_6_1
      have i_6_2 : ¬ (xs 1).toInt = 0 := z6 rfl (by decide) c_6_2
      exfalso; omega
    · skip
      have i_6_0 : 0 ≤ (xs 1).toInt := z2 rfl (by decide) c_6_0
      have i_6_1 : (xs 1).toInt ≤ 9 := z2 (by decide) rfl c_6_1
      have i_6_2 : (xs 1).toInt = 0 := z5 rfl (by decide) c_6_2
      exfalso; omega
  · skip
    have i_3_0 : 0 ≤ (xs 1).toInt := z2 rfl (by decide) c_3_0
    have i_3_1 : 9 < (xs 1).toInt := z1 (by decide) rfl c_3_1
    refine lv_aload_n hx hb dL_law_859 rfl (lv_at hl 2 rfl) ?_
    refine lv_aload_n hx hb dL_law_860 rfl (lv_at hl 0 rfl) ?_
    refine lv_iload hx hb dL_law_861 (lv_at hl 4 rfl) ?_
    refine lv_iconst (v := 1) hx hb dL_law_863 (by decide) ?_
    refine lv_iadd hx hb dL_law_864 ?_
    refine lv_topi (fun v_7 ev_7 => ?_)
    obtain rfl : v_7 = 1 := ev_7.trans (by decide)
    refine va_sld hx hb hX hbl hbA hS (by unfold vp_in; decide) dL_law_865 ?_
    refine lv_topi (fun v_8 ev_8 => ?_)
    obtain rfl : v_8 = xs 1 := ev_8
    have hPc := hP.sub (ws' := [(mh0, .inr (11, [.int 0, .ref mq1, .int 0, .int 0, .int 0, .int 0, .ref mq2, .ref mq3, .ref mq4, .ref mq5, .ref mq6, .ref mq7, .ref mq8, .int 0, .int 0, .ref mq9, .ref mq10, .ref mq11, .ref mq12, .ref mq13, .int 0, .int 0, .ref mq14, .ref mq15, .ref mq16, .int 0, .int 0, .ref mq17, .ref mq18, .int (-1), .int 0, .ref mq19, .int 0, .long 0, .ref mq20, .int 0, .int 0, .ref mq21, .ref mq22, .ref mq23, .int 0]))]) [0] rfl
    have hDc := hD.sub (ws' := [(mh0, .inr (11, [.int 0, .ref mq1, .int 0, .int 0, .int 0, .int 0, .ref mq2, .ref mq3, .ref mq4, .ref mq5, .ref mq6, .ref mq7, .ref mq8, .int 0, .int 0, .ref mq9, .ref mq10, .ref mq11, .ref mq12, .ref mq13, .int 0, .int 0, .ref mq14, .ref mq15, .ref mq16, .int 0, .int 0, .ref mq17, .ref mq18, .int (-1), .int 0, .ref mq19, .int 0, .long 0, .ref mq20, .int 0, .int 0, .ref mq21, .ref mq22, .ref mq23, .int 0]))]) [0] (by decide) rfl
    have hFc := va_free (wc := [(mh0, .inr (11, [.int 0, .ref mq1, .int 0, .int 0, .int 0, .int 0, .ref mq2, .ref mq3, .ref mq4, .ref mq5, .ref mq6, .ref mq7, .ref mq8, .int 0, .int 0, .ref mq9, .ref mq10, .ref mq11, .ref mq12, .ref mq13, .int 0, .int 0, .ref mq14, .ref mq15, .ref mq16, .int 0, .int 0, .ref mq17, .ref mq18, .int (-1), .int 0, .ref mq19, .int 0, .long 0, .ref mq20, .int 0, .int 0, .ref mq21, .ref mq22, .ref mq23, .int 0]))]) hD hS hA [0] rfl
    refine va_calli (va_runV (As := [.int (xs 1)]) (rest := [.int 0]) ⟨hx, hb, hml, hown, hts⟩ (c_X11_bribes l dC dI cI cJ mh0 mq1 mq2 mq3 mq4 mq5 mq6 mq7 mq8 mq9 mq10 mq11 mq12 mq13 mq14 mq15 mq16 mq17 mq18 mq19 mq20 mq21 mq22 mq23 H.size (xs 1)) (cwV 1 hts (zgV qw1545 qw1546 qw1547 qw108 qw1548) rfl rfl rfl hd_X11_bribes ⟨Nat.le_of_ble_eq_true rfl, Nat.le_of_ble_eq_true rfl⟩) (zPV hPc hK hDc (va_recv hK hP (ci := 11) (q0 := 0) rfl rfl)) rfl rfl hl.1 rfl (lv_room (Nat.le_of_ble_eq_true rfl)) dL_law_866 ⟨Nat.le_of_ble_eq_true rfl, Nat.le_of_ble_eq_true rfl⟩) hS (fun q _ h => hFc q h) hFc (fun r_9 u t H locs ht hvm hw hB hz1 hk1 hS => ?_)
    obtain ⟨hP, hD⟩ := va_join (wr := []) (w1 := []) hP hD [0] [] rfl rfl (by decide) (by decide) hk1 hFc zP0 zD0
    have hP : va_P (dC, dI) vwCl [] H := hP
    have hD : va_D (fun q : Nat => s.heap.size ≤ q) [] := hD
    rcases hw with ⟨c_9_0, rfl⟩ | ⟨c_9_0, c_9_1, rfl⟩ | ⟨c_9_0, c_9_1, c_9_2, rfl⟩ | ⟨c_9_0, c_9_1, c_9_2, rfl⟩
    · skip
      have i_9_0 : (xs 1).toInt < 0 := z1 rfl (by decide) c_9_0
      exfalso; omega
    · skip
      have i_9_0 : 0 ≤ (xs 1).toInt := z2 rfl (by decide) c_9_0
      have i_9_1 : 9 < (xs 1).toInt := z1 (by decide) rfl c_9_1
      refine lv_icmp_eq (tgt := 1825) hx hb dL_law_869 (by decide) (fun _ => ?_) (fun c => absurd (by decide) c)
      exact law_end C0 hS (lv_sub hl [0, 4] rfl)
    · skip
      have i_9_0 : 0 ≤ (xs 1).toInt := z2 rfl (by decide) c_9_0
      have i_9_1 : (xs 1).toInt ≤ 9 := z2 (by decide) rfl c_9_1
      have i_9_2 : ¬ (xs 1).toInt = 0 := z6 rfl (by decide) c_9_2
      exfalso; omega
    · skip
      have i_9_0 : 0 ≤ (xs 1).toInt := z2 rfl (by decide) c_9_0
      have i_9_1 : (xs 1).toInt ≤ 9 := z2 (by decide) rfl c_9_1
      have i_9_2 : (xs 1).toInt = 0 := z5 rfl (by decide) c_9_2
      exfalso; omega
  · skip
    have i_3_0 : 0 ≤ (xs 1).toInt := z2 rfl (by decide) c_3_0
    have i_3_1 : (xs 1).toInt ≤ 9 := z2 (by decide) rfl c_3_1
    have i_3_2 : ¬ (xs 1).toInt = 0 := z6 rfl (by decide) c_3_2
    refine lv_aload_n hx hb dL_law_859 rfl (lv_at hl 2 rfl) ?_
    refine lv_aload_n hx hb dL_law_860 rfl (lv_at hl 0 rfl) ?_
    refine lv_iload hx hb dL_law_861 (lv_at hl 4 rfl) ?_
    refine lv_iconst (v := 1) hx hb dL_law_863 (by decide) ?_
    refine lv_iadd hx hb dL_law_864 ?_
    refine lv_topi (fun v_10 ev_10 => ?_)
    obtain rfl : v_10 = 1 := ev_10.trans (by decide)
    refine va_sld hx hb hX hbl hbA hS (by unfold vp_in; decide) dL_law_865 ?_
    refine lv_topi (fun v_11 ev_11 => ?_)
    obtain rfl : v_11 = xs 1 := ev_11
    have hPc := hP.sub (ws' := [(mh0, .inr (11, [.int 0, .ref mq1, .int 0, .int 0, .int 0, .int 0, .ref mq2, .ref mq3, .ref mq4, .ref mq5, .ref mq6, .ref mq7, .ref mq8, .int 0, .int 0, .ref mq9, .ref mq10, .ref mq11, .ref mq12, .ref mq13, .int 0, .int 0, .ref mq14, .ref mq15, .ref mq16, .int 0, .int 0, .ref mq17, .ref mq18, .int (-1), .int 0, .ref mq19, .int 0, .long 0, .ref mq20, .int 0, .int 0, .ref mq21, .ref mq22, .ref mq23, .int 0]))]) [0] rfl
    have hDc := hD.sub (ws' := [(mh0, .inr (11, [.int 0, .ref mq1, .int 0, .int 0, .int 0, .int 0, .ref mq2, .ref mq3, .ref mq4, .ref mq5, .ref mq6, .ref mq7, .ref mq8, .int 0, .int 0, .ref mq9, .ref mq10, .ref mq11, .ref mq12, .ref mq13, .int 0, .int 0, .ref mq14, .ref mq15, .ref mq16, .int 0, .int 0, .ref mq17, .ref mq18, .int (-1), .int 0, .ref mq19, .int 0, .long 0, .ref mq20, .int 0, .int 0, .ref mq21, .ref mq22, .ref mq23, .int 0]))]) [0] (by decide) rfl
    have hFc := va_free (wc := [(mh0, .inr (11, [.int 0, .ref mq1, .int 0, .int 0, .int 0, .int 0, .ref mq2, .ref mq3, .ref mq4, .ref mq5, .ref mq6, .ref mq7, .ref mq8, .int 0, .int 0, .ref mq9, .ref mq10, .ref mq11, .ref mq12, .ref mq13, .int 0, .int 0, .ref mq14, .ref mq15, .ref mq16, .int 0, .int 0, .ref mq17, .ref mq18, .int (-1), .int 0, .ref mq19, .int 0, .long 0, .ref mq20, .int 0, .int 0, .ref mq21, .ref mq22, .ref mq23, .int 0]))]) hD hS hA [0] rfl
    refine va_calli (va_runV (As := [.int (xs 1)]) (rest := [.int 1]) ⟨hx, hb, hml, hown, hts⟩ (c_X11_bribes l dC dI cI cJ mh0 mq1 mq2 mq3 mq4 mq5 mq6 mq7 mq8 mq9 mq10 mq11 mq12 mq13 mq14 mq15 mq16 mq17 mq18 mq19 mq20 mq21 mq22 mq23 H.size (xs 1)) (cwV 1 hts (zgV qw1545 qw1546 qw1547 qw108 qw1548) rfl rfl rfl hd_X11_bribes ⟨Nat.le_of_ble_eq_true rfl, Nat.le_of_ble_eq_true rfl⟩) (zPV hPc hK hDc (va_recv hK hP (ci := 11) (q0 := 0) rfl rfl)) rfl rfl hl.1 rfl (lv_room (Nat.le_of_ble_eq_true rfl)) dL_law_866 ⟨Nat.le_of_ble_eq_true rfl, Nat.le_of_ble_eq_true rfl⟩) hS (fun q _ h => hFc q h) hFc (fun r_12 u t H locs ht hvm hw hB hz1 hk1 hS => ?_)
    obtain ⟨hP, hD⟩ := va_join (wr := []) (w1 := []) hP hD [0] [] rfl rfl (by decide) (by decide) hk1 hFc zP0 zD0
    have hP : va_P (dC, dI) vwCl [] H := hP
    have hD : va_D (fun q : Nat => s.heap.size ≤ q) [] := hD
    rcases hw with ⟨c_12_0, rfl⟩ | ⟨c_12_0, c_12_1, rfl⟩ | ⟨c_12_0, c_12_1, c_12_2, rfl⟩ | ⟨c_12_0, c_12_1, c_12_2, rfl⟩
    · skip
      have i_12_0 : (xs 1).toInt < 0 := z1 rfl (by decide) c_12_0
      exfalso; omega
    · skip
      have i_12_0 : 0 ≤ (xs 1).toInt := z2 rfl (by decide) c_12_0
      have i_12_1 : 9 < (xs 1).toInt := z1 (by decide) rfl c_12_1
      exfalso; omega
    · skip
      have i_12_0 : 0 ≤ (xs 1).toInt := z2 rfl (by decide) c_12_0
      have i_12_1 : (xs 1).toInt ≤ 9 := z2 (by decide) rfl c_12_1
      have i_12_2 : ¬ (xs 1).toInt = 0 := z6 rfl (by decide) c_12_2
      refine lv_icmp_eq (tgt := 1825) hx hb dL_law_869 (by decide) (fun _ => ?_) (fun c => absurd (by decide) c)
      exact law_end C0 hS (lv_sub hl [0, 4] rfl)
    · skip
      have i_12_0 : 0 ≤ (xs 1).toInt := z2 rfl (by decide) c_12_0
      have i_12_1 : (xs 1).toInt ≤ 9 := z2 (by decide) rfl c_12_1
      have i_12_2 : (xs 1).toInt = 0 := z5 rfl (by decide) c_12_2
      exfalso; omega
  · skip
    have i_3_0 : 0 ≤ (xs 1).toInt := z2 rfl (by decide) c_3_0
    have i_3_1 : (xs 1).toInt ≤ 9 := z2 (by decide) rfl c_3_1
    have i_3_2 : (xs 1).toInt = 0 := z5 rfl (by decide) c_3_2
    refine lv_aload_n hx hb dL_law_859 rfl (lv_at hl 2 rfl) ?_
    refine lv_aload_n hx hb dL_law_860 rfl (lv_at hl 0 rfl) ?_
    refine lv_iload hx hb dL_law_861 (lv_at hl 4 rfl) ?_
    refine lv_iconst (v := 1) hx hb dL_law_863 (by decide) ?_
    refine lv_iadd hx hb dL_law_864 ?_
    refine lv_topi (fun v_13 ev_13 => ?_)
    obtain rfl : v_13 = 1 := ev_13.trans (by decide)
    refine va_sld hx hb hX hbl hbA hS (by unfold vp_in; decide) dL_law_865 ?_
    refine lv_topi (fun v_14 ev_14 => ?_)
    obtain rfl : v_14 = xs 1 := ev_14
    have hPc := hP.sub (ws' := [(mh0, .inr (11, [.int 0, .ref mq1, .int 0, .int 0, .int 0, .int 0, .ref mq2, .ref mq3, .ref mq4, .ref mq5, .ref mq6, .ref mq7, .ref mq8, .int 0, .int 0, .ref mq9, .ref mq10, .ref mq11, .ref mq12, .ref mq13, .int 0, .int 0, .ref mq14, .ref mq15, .ref mq16, .int 0, .int 0, .ref mq17, .ref mq18, .int (-1), .int 0, .ref mq19, .int 0, .long 0, .ref mq20, .int 0, .int 0, .ref mq21, .ref mq22, .ref mq23, .int 0]))]) [0] rfl
    have hDc := hD.sub (ws' := [(mh0, .inr (11, [.int 0, .ref mq1, .int 0, .int 0, .int 0, .int 0, .ref mq2, .ref mq3, .ref mq4, .ref mq5, .ref mq6, .ref mq7, .ref mq8, .int 0, .int 0, .ref mq9, .ref mq10, .ref mq11, .ref mq12, .ref mq13, .int 0, .int 0, .ref mq14, .ref mq15, .ref mq16, .int 0, .int 0, .ref mq17, .ref mq18, .int (-1), .int 0, .ref mq19, .int 0, .long 0, .ref mq20, .int 0, .int 0, .ref mq21, .ref mq22, .ref mq23, .int 0]))]) [0] (by decide) rfl
    have hFc := va_free (wc := [(mh0, .inr (11, [.int 0, .ref mq1, .int 0, .int 0, .int 0, .int 0, .ref mq2, .ref mq3, .ref mq4, .ref mq5, .ref mq6, .ref mq7, .ref mq8, .int 0, .int 0, .ref mq9, .ref mq10, .ref mq11, .ref mq12, .ref mq13, .int 0, .int 0, .ref mq14, .ref mq15, .ref mq16, .int 0, .int 0, .ref mq17, .ref mq18, .int (-1), .int 0, .ref mq19, .int 0, .long 0, .ref mq20, .int 0, .int 0, .ref mq21, .ref mq22, .ref mq23, .int 0]))]) hD hS hA [0] rfl
    refine va_calli (va_runV (As := [.int (xs 1)]) (rest := [.int 0]) ⟨hx, hb, hml, hown, hts⟩ (c_X11_bribes l dC dI cI cJ mh0 mq1 mq2 mq3 mq4 mq5 mq6 mq7 mq8 mq9 mq10 mq11 mq12 mq13 mq14 mq15 mq16 mq17 mq18 mq19 mq20 mq21 mq22 mq23 H.size (xs 1)) (cwV 1 hts (zgV qw1545 qw1546 qw1547 qw108 qw1548) rfl rfl rfl hd_X11_bribes ⟨Nat.le_of_ble_eq_true rfl, Nat.le_of_ble_eq_true rfl⟩) (zPV hPc hK hDc (va_recv hK hP (ci := 11) (q0 := 0) rfl rfl)) rfl rfl hl.1 rfl (lv_room (Nat.le_of_ble_eq_true rfl)) dL_law_866 ⟨Nat.le_of_ble_eq_true rfl, Nat.le_of_ble_eq_true rfl⟩) hS (fun q _ h => hFc q h) hFc (fun r_15 u t H locs ht hvm hw hB hz1 hk1 hS => ?_)
    obtain ⟨hP, hD⟩ := va_join (wr := []) (w1 := []) hP hD [0] [] rfl rfl (by decide) (by decide) hk1 hFc zP0 zD0
    have hP : va_P (dC, dI) vwCl [] H := hP
    have hD : va_D (fun q : Nat => s.heap.size ≤ q) [] := hD
    rcases hw with ⟨c_15_0, rfl⟩ | ⟨c_15_0, c_15_1, rfl⟩ | ⟨c_15_0, c_15_1, c_15_2, rfl⟩ | ⟨c_15_0, c_15_1, c_15_2, rfl⟩
    · skip
      have i_15_0 : (xs 1).toInt < 0 := z1 rfl (by decide) c_15_0
      exfalso; omega
    · skip
      have i_15_0 : 0 ≤ (xs 1).toInt := z2 rfl (by decide) c_15_0
      have i_15_1 : 9 < (xs 1).toInt := z1 (by decide) rfl c_15_1
      exfalso; omega
    · skip
      have i_15_0 : 0 ≤ (xs 1).toInt := z2 rfl (by decide) c_15_0
      have i_15_1 : (xs 1).toInt ≤ 9 := z2 (by decide) rfl c_15_1
      have i_15_2 : ¬ (xs 1).toInt = 0 := z6 rfl (by decide) c_15_2
      exfalso; omega
    · skip
      have i_15_0 : 0 ≤ (xs 1).toInt := z2 rfl (by decide) c_15_0
      have i_15_1 : (xs 1).toInt ≤ 9 := z2 (by decide) rfl c_15_1
      have i_15_2 : (xs 1).toInt = 0 := z5 rfl (by decide) c_15_2
      refine lv_icmp_eq (tgt := 1825) hx hb dL_law_869 (by decide) (fun _ => ?_) (fun c => absurd (by decide) c)
      exact law_end C0 hS (lv_sub hl [0, 4] rfl)
set_option maxHeartbeats 4000000 in
set_option maxRecDepth 100000 in
theorem law_case_19 {p : Program} {l : Launch} {e : Env} {s : State} {m : MethodId} {below : List Frame} {meth : Method} {c : Code} {b : Nat} {xs : Nat → Int32} {dC : Nat → ClassId} {dI : Nat → Nat → Nat} {cI cJ : ClassId} {xh0 mh0 o0 xq1 xq4 xq6 xq9 xq14 xq19 xq20 xq25 xq30 xq33 xq39 xq45 xq47 xq16 xq17 xq18 mq1 mq2 mq3 mq4 mq5 mq6 mq7 mq8 mq9 mq10 mq11 mq12 mq13 mq14 mq15 mq16 mq17 mq18 mq19 mq20 mq21 mq22 mq23 g0 : Nat} (hl0 : l.stackTraces = false) (C0 : lw_At p s m meth c b 7 xs) (hK : va_K (dC, dI) vwCl [(cI, .int), (cJ, .long)] s) (hF : zF g0 (fun q : Nat => s.heap.size ≤ q) s) (hG : zG (fun q : Nat => s.heap.size ≤ q) s) {H : Heap} {locs : List Loc} (hP : va_P (dC, dI) vwCl [(xh0, .inr (10, [.ref xq1, .ref xq4, .ref xq6, .ref xq9, .ref xq14, .ref xq19, .ref xq20, .ref xq25, .ref xq30, .ref xq33, .ref xq39, .ref xq45, .ref xq47, .int 0, .int (-1), .int 0, .int 0])), (xq14, .inr (1, [.ref xq16, .ref xq17, .ref xq18, .int 0, .int 0])), (mh0, .inr (11, [.int 0, .ref mq1, .int 0, .int 0, .int 0, .int 0, .ref mq2, .ref mq3, .ref mq4, .ref mq5, .ref mq6, .ref mq7, .ref mq8, .int 0, .int 0, .ref mq9, .ref mq10, .ref mq11, .ref mq12, .ref mq13, .int 0, .int 0, .ref mq14, .ref mq15, .ref mq16, .int 0, .int 0, .ref mq17, .ref mq18, .int (-1), .int 0, .ref mq19, .int 0, .long 0, .ref mq20, .int 0, .int 0, .ref mq21, .ref mq22, .ref mq23, .int 0]))] H) (hD : va_D (fun q : Nat => s.heap.size ≤ q) [(xh0, .inr (10, [.ref xq1, .ref xq4, .ref xq6, .ref xq9, .ref xq14, .ref xq19, .ref xq20, .ref xq25, .ref xq30, .ref xq33, .ref xq39, .ref xq45, .ref xq47, .int 0, .int (-1), .int 0, .int 0])), (xq14, .inr (1, [.ref xq16, .ref xq17, .ref xq18, .int 0, .int 0])), (mh0, .inr (11, [.int 0, .ref mq1, .int 0, .int 0, .int 0, .int 0, .ref mq2, .ref mq3, .ref mq4, .ref mq5, .ref mq6, .ref mq7, .ref mq8, .int 0, .int 0, .ref mq9, .ref mq10, .ref mq11, .ref mq12, .ref mq13, .int 0, .int 0, .ref mq14, .ref mq15, .ref mq16, .int 0, .int 0, .ref mq17, .ref mq18, .int (-1), .int 0, .ref mq19, .int 0, .long 0, .ref mq20, .int 0, .int 0, .ref mq21, .ref mq22, .ref mq23, .int 0]))]) (hS : va_S (fun q : Nat => s.heap.size ≤ q) s.heap H locs) {ls : Array Slot} (hl : lv_has ls 7 [(0, .ref b), (1, .ref xh0), (2, .ref mh0), (3, .ref o0), (4, .int 0)]) : W p l e room_1 s m #[Value.ref b] below meth c H locs 62 13545 (lw_Z below #[Value.ref b] s) (F0 m 874 ls []) := by
  obtain ⟨hx, hb, hr, hml, hown, hts0, hX, hbl, hlocks, hgv⟩ := id C0
  have hts : ∀ w ∈ wA, w.before #[Value.ref b] s = true := fun w h => hts0 w (List.mem_filter.mp h).1
  have hown : s.vm.findClass RL = some m.cls := hown
  have hA : ∀ q : Nat, s.heap.size ≤ q → (fun q : Nat => s.heap.size ≤ q) q := fun _ h => h
  have hbA : ¬ (fun q : Nat => s.heap.size ≤ q) b := Nat.not_le.mpr hbl
  refine lv_aload_n hx hb dL_law_874 rfl (lv_at hl 1 rfl) ?_
  refine lv_aload_n hx hb dL_law_875 rfl (lv_at hl 0 rfl) ?_
  refine lv_iload hx hb dL_law_876 (lv_at hl 4 rfl) ?_
  refine lv_iconst (v := 1) hx hb dL_law_878 (by decide) ?_
  refine lv_iadd hx hb dL_law_879 ?_
  refine lv_topi (fun v_1 ev_1 => ?_)
  obtain rfl : v_1 = 1 := ev_1.trans (by decide)
  refine va_sld hx hb hX hbl hbA hS (by unfold vp_in; decide) dL_law_880 ?_
  refine lv_topi (fun v_2 ev_2 => ?_)
  obtain rfl : v_2 = xs 1 := ev_2
  refine lv_aload_n hx hb dL_law_881 rfl (lv_at hl 0 rfl) ?_
  refine lv_iload hx hb dL_law_882 (lv_at hl 4 rfl) ?_
  refine lv_iconst (v := 2) hx hb dL_law_884 (by decide) ?_
  refine lv_iadd hx hb dL_law_885 ?_
  refine lv_topi (fun v_3 ev_3 => ?_)
  obtain rfl : v_3 = 2 := ev_3.trans (by decide)
  refine va_sld hx hb hX hbl hbA hS (by unfold vp_in; decide) dL_law_886 ?_
  refine lv_topi (fun v_4 ev_4 => ?_)
  obtain rfl : v_4 = xs 2 := ev_4
  refine lv_i2l hx hb dL_law_887 rfl ?_
  refine lv_bipush (v := 32) hx hb dL_law_888 (by decide) ?_
  refine lv_lshl hx hb dL_law_890 rfl ?_
  refine lv_aload_n hx hb dL_law_891 rfl (lv_at hl 0 rfl) ?_
  refine lv_iload hx hb dL_law_892 (lv_at hl 4 rfl) ?_
  refine lv_iconst (v := 3) hx hb dL_law_894 (by decide) ?_
  refine lv_iadd hx hb dL_law_895 ?_
  refine lv_topi (fun v_5 ev_5 => ?_)
  obtain rfl : v_5 = 3 := ev_5.trans (by decide)
  refine va_sld hx hb hX hbl hbA hS (by unfold vp_in; decide) dL_law_896 ?_
  refine lv_topi (fun v_6 ev_6 => ?_)
  obtain rfl : v_6 = xs 3 := ev_6
  refine lv_i2l hx hb dL_law_897 rfl ?_
  refine lv_ldc2 (v := 4294967295) hx hb hown (hts _ qw1765) dL_law_898 ?_
  refine lv_land hx hb dL_law_901 ?_
  refine lv_lor hx hb dL_law_902 ?_
  refine lv_topl (fun sd_7 esd_7 => ?_)
  have hPc := hP.sub (ws' := [(xh0, .inr (10, [.ref xq1, .ref xq4, .ref xq6, .ref xq9, .ref xq14, .ref xq19, .ref xq20, .ref xq25, .ref xq30, .ref xq33, .ref xq39, .ref xq45, .ref xq47, .int 0, .int (-1), .int 0, .int 0])), (xq14, .inr (1, [.ref xq16, .ref xq17, .ref xq18, .int 0, .int 0]))]) [0, 1] rfl
  have hDc := hD.sub (ws' := [(xh0, .inr (10, [.ref xq1, .ref xq4, .ref xq6, .ref xq9, .ref xq14, .ref xq19, .ref xq20, .ref xq25, .ref xq30, .ref xq33, .ref xq39, .ref xq45, .ref xq47, .int 0, .int (-1), .int 0, .int 0])), (xq14, .inr (1, [.ref xq16, .ref xq17, .ref xq18, .int 0, .int 0]))]) [0, 1] (by decide) rfl
  have hFc := zfr hS hA
  refine va_calli (va_runV (As := [.int (xs 1), .long sd_7]) (rest := []) ⟨hx, hb, hml, hown, hts⟩ (c_X10_decades l dC dI cI cJ xh0 xq1 xq4 xq6 xq9 xq14 xq19 xq20 xq25 xq30 xq33 xq39 xq45 xq47 xq16 xq17 xq18 H.size (xs 1) sd_7) (cwV 2 hts (zgV qw772 qw773 qw774 qw98 qw775) rfl rfl rfl hd_X10_decades ⟨Nat.le_of_ble_eq_true rfl, Nat.le_of_ble_eq_true rfl⟩) (zPV hPc hK hDc (va_recv hK hP (ci := 10) (q0 := 0) rfl rfl)) rfl rfl hl.1 rfl (lv_room (Nat.le_of_ble_eq_true rfl)) dL_law_903 ⟨Nat.le_of_ble_eq_true rfl, Nat.le_of_ble_eq_true rfl⟩) hS (fun q _ h => hFc q h) hFc (fun r_8 u t H locs ht hvm hw hB hz1 hk1 hS => ?_)
  have hP := zkeep hP hk1
  have hw : r_8 = (-1) := hw
  subst hw
  refine lv_aload_n hx hb dL_law_906 rfl (lv_at hl 2 rfl) ?_
  refine lv_aload_n hx hb dL_law_907 rfl (lv_at hl 0 rfl) ?_
  refine lv_iload hx hb dL_law_908 (lv_at hl 4 rfl) ?_
  refine lv_iconst (v := 1) hx hb dL_law_910 (by decide) ?_
  refine lv_iadd hx hb dL_law_911 ?_
  refine lv_topi (fun v_9 ev_9 => ?_)
  obtain rfl : v_9 = 1 := ev_9.trans (by decide)
  refine va_sld hx hb hX hbl hbA hS (by unfold vp_in; decide) dL_law_912 ?_
  refine lv_topi (fun v_10 ev_10 => ?_)
  obtain rfl : v_10 = xs 1 := ev_10
  refine lv_aload_n hx hb dL_law_913 rfl (lv_at hl 0 rfl) ?_
  refine lv_iload hx hb dL_law_914 (lv_at hl 4 rfl) ?_
  refine lv_iconst (v := 2) hx hb dL_law_916 (by decide) ?_
  refine lv_iadd hx hb dL_law_917 ?_
  refine lv_topi (fun v_11 ev_11 => ?_)
  obtain rfl : v_11 = 2 := ev_11.trans (by decide)
  refine va_sld hx hb hX hbl hbA hS (by unfold vp_in; decide) dL_law_918 ?_
  refine lv_topi (fun v_12 ev_12 => ?_)
  obtain rfl : v_12 = xs 2 := ev_12
  refine lv_i2l hx hb dL_law_919 rfl ?_
  refine lv_bipush (v := 32) hx hb dL_law_920 (by decide) ?_
  refine lv_lshl hx hb dL_law_922 rfl ?_
  refine lv_aload_n hx hb dL_law_923 rfl (lv_at hl 0 rfl) ?_
  refine lv_iload hx hb dL_law_924 (lv_at hl 4 rfl) ?_
  refine lv_iconst (v := 3) hx hb dL_law_926 (by decide) ?_
  refine lv_iadd hx hb dL_law_927 ?_
  refine lv_topi (fun v_13 ev_13 => ?_)
  obtain rfl : v_13 = 3 := ev_13.trans (by decide)
  refine va_sld hx hb hX hbl hbA hS (by unfold vp_in; decide) dL_law_928 ?_
  refine lv_topi (fun v_14 ev_14 => ?_)
  obtain rfl : v_14 = xs 3 := ev_14
  refine lv_i2l hx hb dL_law_929 rfl ?_
  refine lv_ldc2 (v := 4294967295) hx hb hown (hts _ qw1765) dL_law_930 ?_
  refine lv_land hx hb dL_law_933 ?_
  refine lv_lor hx hb dL_law_934 ?_
  refine lv_topl (fun sd_15 esd_15 => ?_)
  have hPc := hP.sub (ws' := [(mh0, .inr (11, [.int 0, .ref mq1, .int 0, .int 0, .int 0, .int 0, .ref mq2, .ref mq3, .ref mq4, .ref mq5, .ref mq6, .ref mq7, .ref mq8, .int 0, .int 0, .ref mq9, .ref mq10, .ref mq11, .ref mq12, .ref mq13, .int 0, .int 0, .ref mq14, .ref mq15, .ref mq16, .int 0, .int 0, .ref mq17, .ref mq18, .int (-1), .int 0, .ref mq19, .int 0, .long 0, .ref mq20, .int 0, .int 0, .ref mq21, .ref mq22, .ref mq23, .int 0]))]) [2] rfl
  have hDc := hD.sub (ws' := [(mh0, .inr (11, [.int 0, .ref mq1, .int 0, .int 0, .int 0, .int 0, .ref mq2, .ref mq3, .ref mq4, .ref mq5, .ref mq6, .ref mq7, .ref mq8, .int 0, .int 0, .ref mq9, .ref mq10, .ref mq11, .ref mq12, .ref mq13, .int 0, .int 0, .ref mq14, .ref mq15, .ref mq16, .int 0, .int 0, .ref mq17, .ref mq18, .int (-1), .int 0, .ref mq19, .int 0, .long 0, .ref mq20, .int 0, .int 0, .ref mq21, .ref mq22, .ref mq23, .int 0]))]) [2] (by decide) rfl
  have hFc := zfr hS hA
  refine va_calli (va_runV (As := [.int (xs 1), .long sd_15]) (rest := [.int (-1)]) ⟨hx, hb, hml, hown, hts⟩ (c_X11_decades l dC dI cI cJ mh0 mq1 mq2 mq3 mq4 mq5 mq6 mq7 mq8 mq9 mq10 mq11 mq12 mq13 mq14 mq15 mq16 mq17 mq18 mq19 mq20 mq21 mq22 mq23 H.size (xs 1) sd_15) (cwV 2 hts (zgV qw1549 qw1550 qw1551 qw108 qw1552) rfl rfl rfl hd_X11_decades ⟨Nat.le_of_ble_eq_true rfl, Nat.le_of_ble_eq_true rfl⟩) (zPV hPc hK hDc (va_recv hK hP (ci := 11) (q0 := 2) rfl rfl)) rfl rfl hl.1 rfl (lv_room (Nat.le_of_ble_eq_true rfl)) dL_law_935 ⟨Nat.le_of_ble_eq_true rfl, Nat.le_of_ble_eq_true rfl⟩) hS (fun q _ h => hFc q h) hFc (fun r_16 u t H locs ht hvm hw hB hz1 hk1 hS => ?_)
  have hP := zkeep hP hk1
  have hw : r_16 = (-1) := hw
  subst hw
  refine lv_icmp_eq (tgt := 1825) hx hb dL_law_938 (by decide) (fun _ => ?_) (fun c => absurd (by decide) c)
  exact law_end C0 hS (lv_sub hl [0, 4] rfl)
set_option maxHeartbeats 4000000 in
set_option maxRecDepth 100000 in
theorem law_case_20 {p : Program} {l : Launch} {e : Env} {s : State} {m : MethodId} {below : List Frame} {meth : Method} {c : Code} {b : Nat} {xs : Nat → Int32} {dC : Nat → ClassId} {dI : Nat → Nat → Nat} {cI cJ : ClassId} {xh0 mh0 o0 xq1 xq4 xq6 xq9 xq14 xq19 xq20 xq25 xq30 xq33 xq39 xq45 xq47 mq1 mq2 mq3 mq4 mq5 mq6 mq7 mq8 mq9 mq10 mq11 mq12 mq13 mq14 mq15 mq16 mq17 mq18 mq19 mq20 mq21 mq22 mq23 g0 : Nat} (hl0 : l.stackTraces = false) (C0 : lw_At p s m meth c b 7 xs) (hK : va_K (dC, dI) vwCl [(cI, .int), (cJ, .long)] s) (hF : zF g0 (fun q : Nat => s.heap.size ≤ q) s) (hG : zG (fun q : Nat => s.heap.size ≤ q) s) {H : Heap} {locs : List Loc} (hP : va_P (dC, dI) vwCl [(xh0, .inr (10, [.ref xq1, .ref xq4, .ref xq6, .ref xq9, .ref xq14, .ref xq19, .ref xq20, .ref xq25, .ref xq30, .ref xq33, .ref xq39, .ref xq45, .ref xq47, .int 0, .int (-1), .int 0, .int 0])), (xq47, .inl (cI, 5, .inl (fun _ => 0))), (mh0, .inr (11, [.int 0, .ref mq1, .int 0, .int 0, .int 0, .int 0, .ref mq2, .ref mq3, .ref mq4, .ref mq5, .ref mq6, .ref mq7, .ref mq8, .int 0, .int 0, .ref mq9, .ref mq10, .ref mq11, .ref mq12, .ref mq13, .int 0, .int 0, .ref mq14, .ref mq15, .ref mq16, .int 0, .int 0, .ref mq17, .ref mq18, .int (-1), .int 0, .ref mq19, .int 0, .long 0, .ref mq20, .int 0, .int 0, .ref mq21, .ref mq22, .ref mq23, .int 0])), (mq18, .inl (cI, 5, .inl (fun _ => 0)))] H) (hD : va_D (fun q : Nat => s.heap.size ≤ q) [(xh0, .inr (10, [.ref xq1, .ref xq4, .ref xq6, .ref xq9, .ref xq14, .ref xq19, .ref xq20, .ref xq25, .ref xq30, .ref xq33, .ref xq39, .ref xq45, .ref xq47, .int 0, .int (-1), .int 0, .int 0])), (xq47, .inl (cI, 5, .inl (fun _ => 0))), (mh0, .inr (11, [.int 0, .ref mq1, .int 0, .int 0, .int 0, .int 0, .ref mq2, .ref mq3, .ref mq4, .ref mq5, .ref mq6, .ref mq7, .ref mq8, .int 0, .int 0, .ref mq9, .ref mq10, .ref mq11, .ref mq12, .ref mq13, .int 0, .int 0, .ref mq14, .ref mq15, .ref mq16, .int 0, .int 0, .ref mq17, .ref mq18, .int (-1), .int 0, .ref mq19, .int 0, .long 0, .ref mq20, .int 0, .int 0, .ref mq21, .ref mq22, .ref mq23, .int 0])), (mq18, .inl (cI, 5, .inl (fun _ => 0)))]) (hS : va_S (fun q : Nat => s.heap.size ≤ q) s.heap H locs) {ls : Array Slot} (hl : lv_has ls 7 [(0, .ref b), (1, .ref xh0), (2, .ref mh0), (3, .ref o0), (4, .int 0)]) : W p l e room_1 s m #[Value.ref b] below meth c H locs 62 13545 (lw_Z below #[Value.ref b] s) (F0 m 943 ls []) := by
  obtain ⟨hx, hb, hr, hml, hown, hts0, hX, hbl, hlocks, hgv⟩ := id C0
  have hts : ∀ w ∈ wA, w.before #[Value.ref b] s = true := fun w h => hts0 w (List.mem_filter.mp h).1
  have hown : s.vm.findClass RL = some m.cls := hown
  have hA : ∀ q : Nat, s.heap.size ≤ q → (fun q : Nat => s.heap.size ≤ q) q := fun _ h => h
  have hbA : ¬ (fun q : Nat => s.heap.size ≤ q) b := Nat.not_le.mpr hbl
  refine lv_aload_n hx hb dL_law_943 rfl (lv_at hl 1 rfl) ?_
  refine lv_aload_n hx hb dL_law_944 rfl (lv_at hl 0 rfl) ?_
  refine lv_iload hx hb dL_law_945 (lv_at hl 4 rfl) ?_
  refine lv_iconst (v := 1) hx hb dL_law_947 (by decide) ?_
  refine lv_iadd hx hb dL_law_948 ?_
  refine lv_topi (fun v_1 ev_1 => ?_)
  obtain rfl : v_1 = 1 := ev_1.trans (by decide)
  refine va_sld hx hb hX hbl hbA hS (by unfold vp_in; decide) dL_law_949 ?_
  refine lv_topi (fun v_2 ev_2 => ?_)
  obtain rfl : v_2 = xs 1 := ev_2
  have hPc := hP.sub (ws' := [(xh0, .inr (10, [.ref xq1, .ref xq4, .ref xq6, .ref xq9, .ref xq14, .ref xq19, .ref xq20, .ref xq25, .ref xq30, .ref xq33, .ref xq39, .ref xq45, .ref xq47, .int 0, .int (-1), .int 0, .int 0])), (xq47, .inl (cI, 5, .inl (fun _ => 0)))]) [0, 1] rfl
  have hDc := hD.sub (ws' := [(xh0, .inr (10, [.ref xq1, .ref xq4, .ref xq6, .ref xq9, .ref xq14, .ref xq19, .ref xq20, .ref xq25, .ref xq30, .ref xq33, .ref xq39, .ref xq45, .ref xq47, .int 0, .int (-1), .int 0, .int 0])), (xq47, .inl (cI, 5, .inl (fun _ => 0)))]) [0, 1] (by decide) rfl
  have hFc := zfr hS hA
  refine va_calli (va_runV (As := [.int (xs 1)]) (rest := []) ⟨hx, hb, hml, hown, hts⟩ (c_X10_status l dC dI cI cJ xh0 xq1 xq4 xq6 xq9 xq14 xq19 xq20 xq25 xq30 xq33 xq39 xq45 xq47 H.size (xs 1)) (cwV 1 hts (zgV qw794 qw795 qw796 qw98 qw797) rfl rfl rfl hd_X10_status ⟨Nat.le_of_ble_eq_true rfl, Nat.le_of_ble_eq_true rfl⟩) (zPV hPc hK hDc (va_recv hK hP (ci := 10) (q0 := 0) rfl rfl)) rfl rfl hl.1 rfl (lv_room (Nat.le_of_ble_eq_true rfl)) dL_law_950 ⟨Nat.le_of_ble_eq_true rfl, Nat.le_of_ble_eq_true rfl⟩) hS (fun q _ h => hFc q h) hFc (fun r_3 u t H locs ht hvm hw hB hz1 hk1 hS => ?_)
  have hP := zkeep hP hk1
  rcases hw with ⟨c_3_0, rfl⟩ | ⟨c_3_0, c_3_1, rfl⟩ | ⟨c_3_0, c_3_1, rfl⟩
  · skip
    have i_3_0 : (xs 1).toInt < 0 := z1 rfl (by decide) c_3_0
    refine lv_aload_n hx hb dL_law_953 rfl (lv_at hl 2 rfl) ?_
    refine lv_aload_n hx hb dL_law_954 rfl (lv_at hl 0 rfl) ?_
    refine lv_iload hx hb dL_law_955 (lv_at hl 4 rfl) ?_
    refine lv_iconst (v := 1) hx hb dL_law_957 (by decide) ?_
    refine lv_iadd hx hb dL_law_958 ?_
    refine lv_topi (fun v_4 ev_4 => ?_)
    obtain rfl : v_4 = 1 := ev_4.trans (by decide)
    refine va_sld hx hb hX hbl hbA hS (by unfold vp_in; decide) dL_law_959 ?_
    refine lv_topi (fun v_5 ev_5 => ?_)
    obtain rfl : v_5 = xs 1 := ev_5
    have hPc := hP.sub (ws' := [(mh0, .inr (11, [.int 0, .ref mq1, .int 0, .int 0, .int 0, .int 0, .ref mq2, .ref mq3, .ref mq4, .ref mq5, .ref mq6, .ref mq7, .ref mq8, .int 0, .int 0, .ref mq9, .ref mq10, .ref mq11, .ref mq12, .ref mq13, .int 0, .int 0, .ref mq14, .ref mq15, .ref mq16, .int 0, .int 0, .ref mq17, .ref mq18, .int (-1), .int 0, .ref mq19, .int 0, .long 0, .ref mq20, .int 0, .int 0, .ref mq21, .ref mq22, .ref mq23, .int 0])), (mq18, .inl (cI, 5, .inl (fun _ => 0)))]) [2, 3] rfl
    have hDc := hD.sub (ws' := [(mh0, .inr (11, [.int 0, .ref mq1, .int 0, .int 0, .int 0, .int 0, .ref mq2, .ref mq3, .ref mq4, .ref mq5, .ref mq6, .ref mq7, .ref mq8, .int 0, .int 0, .ref mq9, .ref mq10, .ref mq11, .ref mq12, .ref mq13, .int 0, .int 0, .ref mq14, .ref mq15, .ref mq16, .int 0, .int 0, .ref mq17, .ref mq18, .int (-1), .int 0, .ref mq19, .int 0, .long 0, .ref mq20, .int 0, .int 0, .ref mq21, .ref mq22, .ref mq23, .int 0])), (mq18, .inl (cI, 5, .inl (fun _ => 0)))]) [2, 3] (by decide) rfl
    have hFc := zfr hS hA
    refine va_calli (va_runV (As := [.int (xs 1)]) (rest := [.int (-1)]) ⟨hx, hb, hml, hown, hts⟩ (c_X11_status l dC dI cI cJ mh0 mq1 mq2 mq3 mq4 mq5 mq6 mq7 mq8 mq9 mq10 mq11 mq12 mq13 mq14 mq15 mq16 mq17 mq18 mq19 mq20 mq21 mq22 mq23 H.size (xs 1)) (cwV 1 hts (zgV qw1563 qw1564 qw1565 qw108 qw1566) rfl rfl rfl hd_X11_status ⟨Nat.le_of_ble_eq_true rfl, Nat.le_of_ble_eq_true rfl⟩) (zPV hPc hK hDc (va_recv hK hP (ci := 11) (q0 := 2) rfl rfl)) rfl rfl hl.1 rfl (lv_room (Nat.le_of_ble_eq_true rfl)) dL_law_960 ⟨Nat.le_of_ble_eq_true rfl, Nat.le_of_ble_eq_true rfl⟩) hS (fun q _ h => hFc q h) hFc (fun r_6 u t H locs ht hvm hw hB hz1 hk1 hS => ?_)
    have hP := zkeep hP hk1
    rcases hw with ⟨c_6_0, rfl⟩ | ⟨c_6_0, c_6_1, rfl⟩ | ⟨c_6_0, c_6_1, rfl⟩
    · skip
      have i_6_0 : (xs 1).toInt < 0 := z1 rfl (by decide) c_6_0
      refine lv_icmp_eq (tgt := 1825) hx hb dL_law_963 (by decide) (fun _ => ?_) (fun c => absurd (by decide) c)
      exact law_end C0 hS (lv_sub hl [0, 4] rfl)
    · skip
      have i_6_0 : 0 ≤ (xs 1).toInt := z2 rfl (by decide) c_6_0
      have i_6_1 : 4 < (xs 1).toInt := z1 (by decide) rfl c_6_1
      exfalso; omega
    · skip
      have i_6_0 : 0 ≤ (xs 1).toInt := z2 rfl (by decide) c_6_0
      have i_6_1 : (xs 1).toInt ≤ 4 := z2 (by decide) rfl c_6_1
      exfalso; omega
  · skip
    have i_3_0 : 0 ≤ (xs 1).toInt := z2 rfl (by decide) c_3_0
    have i_3_1 : (xs 1).toInt < 5 := z1 rfl (by decide) c_3_1
    refine lv_aload_n hx hb dL_law_953 rfl (lv_at hl 2 rfl) ?_
    refine lv_aload_n hx hb dL_law_954 rfl (lv_at hl 0 rfl) ?_
    refine lv_iload hx hb dL_law_955 (lv_at hl 4 rfl) ?_
    refine lv_iconst (v := 1) hx hb dL_law_957 (by decide) ?_
    refine lv_iadd hx hb dL_law_958 ?_
    refine lv_topi (fun v_7 ev_7 => ?_)
    obtain rfl : v_7 = 1 := ev_7.trans (by decide)
    refine va_sld hx hb hX hbl hbA hS (by unfold vp_in; decide) dL_law_959 ?_
    refine lv_topi (fun v_8 ev_8 => ?_)
    obtain rfl : v_8 = xs 1 := ev_8
    have hPc := hP.sub (ws' := [(mh0, .inr (11, [.int 0, .ref mq1, .int 0, .int 0, .int 0, .int 0, .ref mq2, .ref mq3, .ref mq4, .ref mq5, .ref mq6, .ref mq7, .ref mq8, .int 0, .int 0, .ref mq9, .ref mq10, .ref mq11, .ref mq12, .ref mq13, .int 0, .int 0, .ref mq14, .ref mq15, .ref mq16, .int 0, .int 0, .ref mq17, .ref mq18, .int (-1), .int 0, .ref mq19, .int 0, .long 0, .ref mq20, .int 0, .int 0, .ref mq21, .ref mq22, .ref mq23, .int 0])), (mq18, .inl (cI, 5, .inl (fun _ => 0)))]) [2, 3] rfl
    have hDc := hD.sub (ws' := [(mh0, .inr (11, [.int 0, .ref mq1, .int 0, .int 0, .int 0, .int 0, .ref mq2, .ref mq3, .ref mq4, .ref mq5, .ref mq6, .ref mq7, .ref mq8, .int 0, .int 0, .ref mq9, .ref mq10, .ref mq11, .ref mq12, .ref mq13, .int 0, .int 0, .ref mq14, .ref mq15, .ref mq16, .int 0, .int 0, .ref mq17, .ref mq18, .int (-1), .int 0, .ref mq19, .int 0, .long 0, .ref mq20, .int 0, .int 0, .ref mq21, .ref mq22, .ref mq23, .int 0])), (mq18, .inl (cI, 5, .inl (fun _ => 0)))]) [2, 3] (by decide) rfl
    have hFc := zfr hS hA
    refine va_calli (va_runV (As := [.int (xs 1)]) (rest := [.int 0]) ⟨hx, hb, hml, hown, hts⟩ (c_X11_status l dC dI cI cJ mh0 mq1 mq2 mq3 mq4 mq5 mq6 mq7 mq8 mq9 mq10 mq11 mq12 mq13 mq14 mq15 mq16 mq17 mq18 mq19 mq20 mq21 mq22 mq23 H.size (xs 1)) (cwV 1 hts (zgV qw1563 qw1564 qw1565 qw108 qw1566) rfl rfl rfl hd_X11_status ⟨Nat.le_of_ble_eq_true rfl, Nat.le_of_ble_eq_true rfl⟩) (zPV hPc hK hDc (va_recv hK hP (ci := 11) (q0 := 2) rfl rfl)) rfl rfl hl.1 rfl (lv_room (Nat.le_of_ble_eq_true rfl)) dL_law_960 ⟨Nat.le_of_ble_eq_true rfl, Nat.le_of_ble_eq_true rfl⟩) hS (fun q _ h => hFc q h) hFc (fun r_9 u t H locs ht hvm hw hB hz1 hk1 hS => ?_)
    have hP := zkeep hP hk1
    rcases hw with ⟨c_9_0, rfl⟩ | ⟨c_9_0, c_9_1, rfl⟩ | ⟨c_9_0, c_9_1, rfl⟩
    · skip
      have i_9_0 : (xs 1).toInt < 0 := z1 rfl (by decide) c_9_0
      exfalso; omega
    · skip
      have i_9_0 : 0 ≤ (xs 1).toInt := z2 rfl (by decide) c_9_0
      have i_9_1 : 4 < (xs 1).toInt := z1 (by decide) rfl c_9_1
      exfalso; omega
    · skip
      have i_9_0 : 0 ≤ (xs 1).toInt := z2 rfl (by decide) c_9_0
      have i_9_1 : (xs 1).toInt ≤ 4 := z2 (by decide) rfl c_9_1
      refine lv_icmp_eq (tgt := 1825) hx hb dL_law_963 (by decide) (fun _ => ?_) (fun c => absurd (by decide) c)
      exact law_end C0 hS (lv_sub hl [0, 4] rfl)
  · skip
    have i_3_0 : 0 ≤ (xs 1).toInt := z2 rfl (by decide) c_3_0
    have i_3_1 : 5 ≤ (xs 1).toInt := z2 rfl (by decide) c_3_1
    refine lv_aload_n hx hb dL_law_953 rfl (lv_at hl 2 rfl) ?_
    refine lv_aload_n hx hb dL_law_954 rfl (lv_at hl 0 rfl) ?_
    refine lv_iload hx hb dL_law_955 (lv_at hl 4 rfl) ?_
    refine lv_iconst (v := 1) hx hb dL_law_957 (by decide) ?_
    refine lv_iadd hx hb dL_law_958 ?_
    refine lv_topi (fun v_10 ev_10 => ?_)
    obtain rfl : v_10 = 1 := ev_10.trans (by decide)
    refine va_sld hx hb hX hbl hbA hS (by unfold vp_in; decide) dL_law_959 ?_
    refine lv_topi (fun v_11 ev_11 => ?_)
    obtain rfl : v_11 = xs 1 := ev_11
    have hPc := hP.sub (ws' := [(mh0, .inr (11, [.int 0, .ref mq1, .int 0, .int 0, .int 0, .int 0, .ref mq2, .ref mq3, .ref mq4, .ref mq5, .ref mq6, .ref mq7, .ref mq8, .int 0, .int 0, .ref mq9, .ref mq10, .ref mq11, .ref mq12, .ref mq13, .int 0, .int 0, .ref mq14, .ref mq15, .ref mq16, .int 0, .int 0, .ref mq17, .ref mq18, .int (-1), .int 0, .ref mq19, .int 0, .long 0, .ref mq20, .int 0, .int 0, .ref mq21, .ref mq22, .ref mq23, .int 0])), (mq18, .inl (cI, 5, .inl (fun _ => 0)))]) [2, 3] rfl
    have hDc := hD.sub (ws' := [(mh0, .inr (11, [.int 0, .ref mq1, .int 0, .int 0, .int 0, .int 0, .ref mq2, .ref mq3, .ref mq4, .ref mq5, .ref mq6, .ref mq7, .ref mq8, .int 0, .int 0, .ref mq9, .ref mq10, .ref mq11, .ref mq12, .ref mq13, .int 0, .int 0, .ref mq14, .ref mq15, .ref mq16, .int 0, .int 0, .ref mq17, .ref mq18, .int (-1), .int 0, .ref mq19, .int 0, .long 0, .ref mq20, .int 0, .int 0, .ref mq21, .ref mq22, .ref mq23, .int 0])), (mq18, .inl (cI, 5, .inl (fun _ => 0)))]) [2, 3] (by decide) rfl
    have hFc := zfr hS hA
    refine va_calli (va_runV (As := [.int (xs 1)]) (rest := [.int (-1)]) ⟨hx, hb, hml, hown, hts⟩ (c_X11_status l dC dI cI cJ mh0 mq1 mq2 mq3 mq4 mq5 mq6 mq7 mq8 mq9 mq10 mq11 mq12 mq13 mq14 mq15 mq16 mq17 mq18 mq19 mq20 mq21 mq22 mq23 H.size (xs 1)) (cwV 1 hts (zgV qw1563 qw1564 qw1565 qw108 qw1566) rfl rfl rfl hd_X11_status ⟨Nat.le_of_ble_eq_true rfl, Nat.le_of_ble_eq_true rfl⟩) (zPV hPc hK hDc (va_recv hK hP (ci := 11) (q0 := 2) rfl rfl)) rfl rfl hl.1 rfl (lv_room (Nat.le_of_ble_eq_true rfl)) dL_law_960 ⟨Nat.le_of_ble_eq_true rfl, Nat.le_of_ble_eq_true rfl⟩) hS (fun q _ h => hFc q h) hFc (fun r_12 u t H locs ht hvm hw hB hz1 hk1 hS => ?_)
    have hP := zkeep hP hk1
    rcases hw with ⟨c_12_0, rfl⟩ | ⟨c_12_0, c_12_1, rfl⟩ | ⟨c_12_0, c_12_1, rfl⟩
    · skip
      have i_12_0 : (xs 1).toInt < 0 := z1 rfl (by decide) c_12_0
      exfalso; omega
    · skip
      have i_12_0 : 0 ≤ (xs 1).toInt := z2 rfl (by decide) c_12_0
      have i_12_1 : 4 < (xs 1).toInt := z1 (by decide) rfl c_12_1
      refine lv_icmp_eq (tgt := 1825) hx hb dL_law_963 (by decide) (fun _ => ?_) (fun c => absurd (by decide) c)
      exact law_end C0 hS (lv_sub hl [0, 4] rfl)
    · skip
      have i_12_0 : 0 ≤ (xs 1).toInt := z2 rfl (by decide) c_12_0
      have i_12_1 : (xs 1).toInt ≤ 4 := z2 (by decide) rfl c_12_1
      exfalso; omega
set_option maxHeartbeats 4000000 in
set_option maxRecDepth 100000 in
theorem law_case_21 {p : Program} {l : Launch} {e : Env} {s : State} {m : MethodId} {below : List Frame} {meth : Method} {c : Code} {b : Nat} {xs : Nat → Int32} {dC : Nat → ClassId} {dI : Nat → Nat → Nat} {cI cJ : ClassId} {xh0 mh0 o0 xq1 xq4 xq6 xq9 xq14 xq19 xq20 xq25 xq30 xq33 xq39 xq45 xq47 xq32 mq1 mq2 mq3 mq4 mq5 mq6 mq7 mq8 mq9 mq10 mq11 mq12 mq13 mq14 mq15 mq16 mq17 mq18 mq19 mq20 mq21 mq22 mq23 g0 : Nat} (hl0 : l.stackTraces = false) (C0 : lw_At p s m meth c b 7 xs) (hK : va_K (dC, dI) vwCl [(cI, .int), (cJ, .long)] s) (hF : zF g0 (fun q : Nat => s.heap.size ≤ q) s) (hG : zG (fun q : Nat => s.heap.size ≤ q) s) {H : Heap} {locs : List Loc} (hP : va_P (dC, dI) vwCl [(xh0, .inr (10, [.ref xq1, .ref xq4, .ref xq6, .ref xq9, .ref xq14, .ref xq19, .ref xq20, .ref xq25, .ref xq30, .ref xq33, .ref xq39, .ref xq45, .ref xq47, .int 0, .int (-1), .int 0, .int 0])), (xq30, .inr (0, [.ref xq32, .int 0, .int 0])), (mh0, .inr (11, [.int 0, .ref mq1, .int 0, .int 0, .int 0, .int 0, .ref mq2, .ref mq3, .ref mq4, .ref mq5, .ref mq6, .ref mq7, .ref mq8, .int 0, .int 0, .ref mq9, .ref mq10, .ref mq11, .ref mq12, .ref mq13, .int 0, .int 0, .ref mq14, .ref mq15, .ref mq16, .int 0, .int 0, .ref mq17, .ref mq18, .int (-1), .int 0, .ref mq19, .int 0, .long 0, .ref mq20, .int 0, .int 0, .ref mq21, .ref mq22, .ref mq23, .int 0]))] H) (hD : va_D (fun q : Nat => s.heap.size ≤ q) [(xh0, .inr (10, [.ref xq1, .ref xq4, .ref xq6, .ref xq9, .ref xq14, .ref xq19, .ref xq20, .ref xq25, .ref xq30, .ref xq33, .ref xq39, .ref xq45, .ref xq47, .int 0, .int (-1), .int 0, .int 0])), (xq30, .inr (0, [.ref xq32, .int 0, .int 0])), (mh0, .inr (11, [.int 0, .ref mq1, .int 0, .int 0, .int 0, .int 0, .ref mq2, .ref mq3, .ref mq4, .ref mq5, .ref mq6, .ref mq7, .ref mq8, .int 0, .int 0, .ref mq9, .ref mq10, .ref mq11, .ref mq12, .ref mq13, .int 0, .int 0, .ref mq14, .ref mq15, .ref mq16, .int 0, .int 0, .ref mq17, .ref mq18, .int (-1), .int 0, .ref mq19, .int 0, .long 0, .ref mq20, .int 0, .int 0, .ref mq21, .ref mq22, .ref mq23, .int 0]))]) (hS : va_S (fun q : Nat => s.heap.size ≤ q) s.heap H locs) {ls : Array Slot} (hl : lv_has ls 7 [(0, .ref b), (1, .ref xh0), (2, .ref mh0), (3, .ref o0), (4, .int 0)]) : W p l e room_1 s m #[Value.ref b] below meth c H locs 62 13545 (lw_Z below #[Value.ref b] s) (F0 m 968 ls []) := by
  obtain ⟨hx, hb, hr, hml, hown, hts0, hX, hbl, hlocks, hgv⟩ := id C0
  have hts : ∀ w ∈ wA, w.before #[Value.ref b] s = true := fun w h => hts0 w (List.mem_filter.mp h).1
  have hown : s.vm.findClass RL = some m.cls := hown
  have hA : ∀ q : Nat, s.heap.size ≤ q → (fun q : Nat => s.heap.size ≤ q) q := fun _ h => h
  have hbA : ¬ (fun q : Nat => s.heap.size ≤ q) b := Nat.not_le.mpr hbl
  refine lv_aload_n hx hb dL_law_968 rfl (lv_at hl 1 rfl) ?_
  have hPc := hP.sub (ws' := [(xh0, .inr (10, [.ref xq1, .ref xq4, .ref xq6, .ref xq9, .ref xq14, .ref xq19, .ref xq20, .ref xq25, .ref xq30, .ref xq33, .ref xq39, .ref xq45, .ref xq47, .int 0, .int (-1), .int 0, .int 0])), (xq30, .inr (0, [.ref xq32, .int 0, .int 0]))]) [0, 1] rfl
  have hDc := hD.sub (ws' := [(xh0, .inr (10, [.ref xq1, .ref xq4, .ref xq6, .ref xq9, .ref xq14, .ref xq19, .ref xq20, .ref xq25, .ref xq30, .ref xq33, .ref xq39, .ref xq45, .ref xq47, .int 0, .int (-1), .int 0, .int 0])), (xq30, .inr (0, [.ref xq32, .int 0, .int 0]))]) [0, 1] (by decide) rfl
  have hFc := zfr hS hA
  refine va_calli (va_runV (As := []) (rest := []) ⟨hx, hb, hml, hown, hts⟩ (c_X10_undo l dC dI cI cJ xh0 xq1 xq4 xq6 xq9 xq14 xq19 xq20 xq25 xq30 xq33 xq39 xq45 xq47 xq32 H.size) (cwV 0 hts (zgV qw798 qw799 qw800 qw98 qw801) rfl rfl rfl hd_X10_undo ⟨Nat.le_of_ble_eq_true rfl, Nat.le_of_ble_eq_true rfl⟩) (zPV hPc hK hDc (va_recv hK hP (ci := 10) (q0 := 0) rfl rfl)) rfl rfl hl.1 rfl (lv_room (Nat.le_of_ble_eq_true rfl)) dL_law_969 ⟨Nat.le_of_ble_eq_true rfl, Nat.le_of_ble_eq_true rfl⟩) hS (fun q _ h => hFc q h) hFc (fun r_1 u t H locs ht hvm hw hB hz1 hk1 hS => ?_)
  have hP := zkeep hP hk1
  have hw : r_1 = (-1) := hw
  subst hw
  refine lv_aload_n hx hb dL_law_972 rfl (lv_at hl 2 rfl) ?_
  have hPc := hP.sub (ws' := [(mh0, .inr (11, [.int 0, .ref mq1, .int 0, .int 0, .int 0, .int 0, .ref mq2, .ref mq3, .ref mq4, .ref mq5, .ref mq6, .ref mq7, .ref mq8, .int 0, .int 0, .ref mq9, .ref mq10, .ref mq11, .ref mq12, .ref mq13, .int 0, .int 0, .ref mq14, .ref mq15, .ref mq16, .int 0, .int 0, .ref mq17, .ref mq18, .int (-1), .int 0, .ref mq19, .int 0, .long 0, .ref mq20, .int 0, .int 0, .ref mq21, .ref mq22, .ref mq23, .int 0]))]) [2] rfl
  have hDc := hD.sub (ws' := [(mh0, .inr (11, [.int 0, .ref mq1, .int 0, .int 0, .int 0, .int 0, .ref mq2, .ref mq3, .ref mq4, .ref mq5, .ref mq6, .ref mq7, .ref mq8, .int 0, .int 0, .ref mq9, .ref mq10, .ref mq11, .ref mq12, .ref mq13, .int 0, .int 0, .ref mq14, .ref mq15, .ref mq16, .int 0, .int 0, .ref mq17, .ref mq18, .int (-1), .int 0, .ref mq19, .int 0, .long 0, .ref mq20, .int 0, .int 0, .ref mq21, .ref mq22, .ref mq23, .int 0]))]) [2] (by decide) rfl
  have hFc := zfr hS hA
  refine va_calli (va_runV (As := []) (rest := [.int (-1)]) ⟨hx, hb, hml, hown, hts⟩ (c_X11_undo l dC dI cI cJ mh0 mq1 mq2 mq3 mq4 mq5 mq6 mq7 mq8 mq9 mq10 mq11 mq12 mq13 mq14 mq15 mq16 mq17 mq18 mq19 mq20 mq21 mq22 mq23 H.size) (cwV 0 hts (zgV qw1567 qw1568 qw1569 qw108 qw1570) rfl rfl rfl hd_X11_undo ⟨Nat.le_of_ble_eq_true rfl, Nat.le_of_ble_eq_true rfl⟩) (zPV hPc hK hDc (va_recv hK hP (ci := 11) (q0 := 2) rfl rfl)) rfl rfl hl.1 rfl (lv_room (Nat.le_of_ble_eq_true rfl)) dL_law_973 ⟨Nat.le_of_ble_eq_true rfl, Nat.le_of_ble_eq_true rfl⟩) hS (fun q _ h => hFc q h) hFc (fun r_2 u t H locs ht hvm hw hB hz1 hk1 hS => ?_)
  have hP := zkeep hP hk1
  have hw : r_2 = (-1) := hw
  subst hw
  refine lv_icmp_eq (tgt := 1825) hx hb dL_law_976 (by decide) (fun _ => ?_) (fun c => absurd (by decide) c)
  exact law_end C0 hS (lv_sub hl [0, 4] rfl)
set_option maxHeartbeats 4000000 in
set_option maxRecDepth 100000 in
theorem law_case_22 {p : Program} {l : Launch} {e : Env} {s : State} {m : MethodId} {below : List Frame} {meth : Method} {c : Code} {b : Nat} {xs : Nat → Int32} {dC : Nat → ClassId} {dI : Nat → Nat → Nat} {cI cJ : ClassId} {xh0 mh0 o0 xq1 xq4 xq6 xq9 xq14 xq19 xq20 xq25 xq30 xq33 xq39 xq45 xq47 xq22 xq23 xq24 mq1 mq2 mq3 mq4 mq5 mq6 mq7 mq8 mq9 mq10 mq11 mq12 mq13 mq14 mq15 mq16 mq17 mq18 mq19 mq20 mq21 mq22 mq23 g0 : Nat} (hl0 : l.stackTraces = false) (C0 : lw_At p s m meth c b 7 xs) (hK : va_K (dC, dI) vwCl [(cI, .int), (cJ, .long)] s) (hF : zF g0 (fun q : Nat => s.heap.size ≤ q) s) (hG : zG (fun q : Nat => s.heap.size ≤ q) s) {H : Heap} {locs : List Loc} (hP : va_P (dC, dI) vwCl [(xh0, .inr (10, [.ref xq1, .ref xq4, .ref xq6, .ref xq9, .ref xq14, .ref xq19, .ref xq20, .ref xq25, .ref xq30, .ref xq33, .ref xq39, .ref xq45, .ref xq47, .int 0, .int (-1), .int 0, .int 0])), (xq20, .inr (7, [.ref xq22, .ref xq23, .ref xq24, .int 0, .int 0, .int 0, .int (-1), .int 0, .int 0])), (mh0, .inr (11, [.int 0, .ref mq1, .int 0, .int 0, .int 0, .int 0, .ref mq2, .ref mq3, .ref mq4, .ref mq5, .ref mq6, .ref mq7, .ref mq8, .int 0, .int 0, .ref mq9, .ref mq10, .ref mq11, .ref mq12, .ref mq13, .int 0, .int 0, .ref mq14, .ref mq15, .ref mq16, .int 0, .int 0, .ref mq17, .ref mq18, .int (-1), .int 0, .ref mq19, .int 0, .long 0, .ref mq20, .int 0, .int 0, .ref mq21, .ref mq22, .ref mq23, .int 0])), (mq17, .inl (cI, 97, .inl (fun _ => 0)))] H) (hD : va_D (fun q : Nat => s.heap.size ≤ q) [(xh0, .inr (10, [.ref xq1, .ref xq4, .ref xq6, .ref xq9, .ref xq14, .ref xq19, .ref xq20, .ref xq25, .ref xq30, .ref xq33, .ref xq39, .ref xq45, .ref xq47, .int 0, .int (-1), .int 0, .int 0])), (xq20, .inr (7, [.ref xq22, .ref xq23, .ref xq24, .int 0, .int 0, .int 0, .int (-1), .int 0, .int 0])), (mh0, .inr (11, [.int 0, .ref mq1, .int 0, .int 0, .int 0, .int 0, .ref mq2, .ref mq3, .ref mq4, .ref mq5, .ref mq6, .ref mq7, .ref mq8, .int 0, .int 0, .ref mq9, .ref mq10, .ref mq11, .ref mq12, .ref mq13, .int 0, .int 0, .ref mq14, .ref mq15, .ref mq16, .int 0, .int 0, .ref mq17, .ref mq18, .int (-1), .int 0, .ref mq19, .int 0, .long 0, .ref mq20, .int 0, .int 0, .ref mq21, .ref mq22, .ref mq23, .int 0])), (mq17, .inl (cI, 97, .inl (fun _ => 0)))]) (hS : va_S (fun q : Nat => s.heap.size ≤ q) s.heap H locs) {ls : Array Slot} (hl : lv_has ls 7 [(0, .ref b), (1, .ref xh0), (2, .ref mh0), (3, .ref o0), (4, .int 0)]) : W p l e room_1 s m #[Value.ref b] below meth c H locs 62 13545 (lw_Z below #[Value.ref b] s) (F0 m 981 ls []) := by
  obtain ⟨hx, hb, hr, hml, hown, hts0, hX, hbl, hlocks, hgv⟩ := id C0
  have hts : ∀ w ∈ wA, w.before #[Value.ref b] s = true := fun w h => hts0 w (List.mem_filter.mp h).1
  have hown : s.vm.findClass RL = some m.cls := hown
  have hA : ∀ q : Nat, s.heap.size ≤ q → (fun q : Nat => s.heap.size ≤ q) q := fun _ h => h
  have hbA : ¬ (fun q : Nat => s.heap.size ≤ q) b := Nat.not_le.mpr hbl
  refine lv_aload_n hx hb dL_law_981 rfl (lv_at hl 1 rfl) ?_
  refine lv_aload_n hx hb dL_law_982 rfl (lv_at hl 0 rfl) ?_
  refine lv_iload hx hb dL_law_983 (lv_at hl 4 rfl) ?_
  refine lv_iconst (v := 1) hx hb dL_law_985 (by decide) ?_
  refine lv_iadd hx hb dL_law_986 ?_
  refine lv_topi (fun v_1 ev_1 => ?_)
  obtain rfl : v_1 = 1 := ev_1.trans (by decide)
  refine va_sld hx hb hX hbl hbA hS (by unfold vp_in; decide) dL_law_987 ?_
  refine lv_topi (fun v_2 ev_2 => ?_)
  obtain rfl : v_2 = xs 1 := ev_2
  refine lv_aload_n hx hb dL_law_988 rfl (lv_at hl 0 rfl) ?_
  refine lv_iload hx hb dL_law_989 (lv_at hl 4 rfl) ?_
  refine lv_iconst (v := 2) hx hb dL_law_991 (by decide) ?_
  refine lv_iadd hx hb dL_law_992 ?_
  refine lv_topi (fun v_3 ev_3 => ?_)
  obtain rfl : v_3 = 2 := ev_3.trans (by decide)
  refine va_sld hx hb hX hbl hbA hS (by unfold vp_in; decide) dL_law_993 ?_
  refine lv_topi (fun v_4 ev_4 => ?_)
  obtain rfl : v_4 = xs 2 := ev_4
  have hPc := hP.sub (ws' := [(xh0, .inr (10, [.ref xq1, .ref xq4, .ref xq6, .ref xq9, .ref xq14, .ref xq19, .ref xq20, .ref xq25, .ref xq30, .ref xq33, .ref xq39, .ref xq45, .ref xq47, .int 0, .int (-1), .int 0, .int 0])), (xq20, .inr (7, [.ref xq22, .ref xq23, .ref xq24, .int 0, .int 0, .int 0, .int (-1), .int 0, .int 0]))]) [0, 1] rfl
  have hDc := hD.sub (ws' := [(xh0, .inr (10, [.ref xq1, .ref xq4, .ref xq6, .ref xq9, .ref xq14, .ref xq19, .ref xq20, .ref xq25, .ref xq30, .ref xq33, .ref xq39, .ref xq45, .ref xq47, .int 0, .int (-1), .int 0, .int 0])), (xq20, .inr (7, [.ref xq22, .ref xq23, .ref xq24, .int 0, .int 0, .int 0, .int (-1), .int 0, .int 0]))]) [0, 1] (by decide) rfl
  have hFc := zfr hS hA
  refine va_calli (va_runV (As := [.int (xs 1), .int (xs 2)]) (rest := []) ⟨hx, hb, hml, hown, hts⟩ (c_X10_portrait l dC dI cI cJ xh0 xq1 xq4 xq6 xq9 xq14 xq19 xq20 xq25 xq30 xq33 xq39 xq45 xq47 xq22 xq23 xq24 H.size (xs 1) (xs 2)) (cwV 2 hts (zgV qw810 qw811 qw812 qw98 qw813) rfl rfl rfl hd_X10_portrait ⟨Nat.le_of_ble_eq_true rfl, Nat.le_of_ble_eq_true rfl⟩) (zPV hPc hK hDc (va_recv hK hP (ci := 10) (q0 := 0) rfl rfl)) rfl rfl hl.1 rfl (lv_room (Nat.le_of_ble_eq_true rfl)) dL_law_994 ⟨Nat.le_of_ble_eq_true rfl, Nat.le_of_ble_eq_true rfl⟩) hS (fun q _ h => hFc q h) hFc (fun r_5 u t H locs ht hvm hw hB hz1 hk1 hS => ?_)
  have hP := zkeep hP hk1
  have hw : r_5 = (-1) := hw
  subst hw
  refine lv_aload_n hx hb dL_law_997 rfl (lv_at hl 2 rfl) ?_
  refine lv_aload_n hx hb dL_law_998 rfl (lv_at hl 0 rfl) ?_
  refine lv_iload hx hb dL_law_999 (lv_at hl 4 rfl) ?_
  refine lv_iconst (v := 1) hx hb dL_law_1001 (by decide) ?_
  refine lv_iadd hx hb dL_law_1002 ?_
  refine lv_topi (fun v_6 ev_6 => ?_)
  obtain rfl : v_6 = 1 := ev_6.trans (by decide)
  refine va_sld hx hb hX hbl hbA hS (by unfold vp_in; decide) dL_law_1003 ?_
  refine lv_topi (fun v_7 ev_7 => ?_)
  obtain rfl : v_7 = xs 1 := ev_7
  refine lv_aload_n hx hb dL_law_1004 rfl (lv_at hl 0 rfl) ?_
  refine lv_iload hx hb dL_law_1005 (lv_at hl 4 rfl) ?_
  refine lv_iconst (v := 2) hx hb dL_law_1007 (by decide) ?_
  refine lv_iadd hx hb dL_law_1008 ?_
  refine lv_topi (fun v_8 ev_8 => ?_)
  obtain rfl : v_8 = 2 := ev_8.trans (by decide)
  refine va_sld hx hb hX hbl hbA hS (by unfold vp_in; decide) dL_law_1009 ?_
  refine lv_topi (fun v_9 ev_9 => ?_)
  obtain rfl : v_9 = xs 2 := ev_9
  have hPc := hP.sub (ws' := [(mh0, .inr (11, [.int 0, .ref mq1, .int 0, .int 0, .int 0, .int 0, .ref mq2, .ref mq3, .ref mq4, .ref mq5, .ref mq6, .ref mq7, .ref mq8, .int 0, .int 0, .ref mq9, .ref mq10, .ref mq11, .ref mq12, .ref mq13, .int 0, .int 0, .ref mq14, .ref mq15, .ref mq16, .int 0, .int 0, .ref mq17, .ref mq18, .int (-1), .int 0, .ref mq19, .int 0, .long 0, .ref mq20, .int 0, .int 0, .ref mq21, .ref mq22, .ref mq23, .int 0])), (mq17, .inl (cI, 97, .inl (fun _ => 0)))]) [2, 3] rfl
  have hDc := hD.sub (ws' := [(mh0, .inr (11, [.int 0, .ref mq1, .int 0, .int 0, .int 0, .int 0, .ref mq2, .ref mq3, .ref mq4, .ref mq5, .ref mq6, .ref mq7, .ref mq8, .int 0, .int 0, .ref mq9, .ref mq10, .ref mq11, .ref mq12, .ref mq13, .int 0, .int 0, .ref mq14, .ref mq15, .ref mq16, .int 0, .int 0, .ref mq17, .ref mq18, .int (-1), .int 0, .ref mq19, .int 0, .long 0, .ref mq20, .int 0, .int 0, .ref mq21, .ref mq22, .ref mq23, .int 0])), (mq17, .inl (cI, 97, .inl (fun _ => 0)))]) [2, 3] (by decide) rfl
  have hFc := zfr hS hA
  refine va_calli (va_runV (As := [.int (xs 1), .int (xs 2)]) (rest := [.int (-1)]) ⟨hx, hb, hml, hown, hts⟩ (c_X11_portrait l dC dI cI cJ mh0 mq1 mq2 mq3 mq4 mq5 mq6 mq7 mq8 mq9 mq10 mq11 mq12 mq13 mq14 mq15 mq16 mq17 mq18 mq19 mq20 mq21 mq22 mq23 H.size (xs 1) (xs 2)) (cwV 2 hts (zgV qw1571 qw1572 qw1573 qw108 qw1574) rfl rfl rfl hd_X11_portrait ⟨Nat.le_of_ble_eq_true rfl, Nat.le_of_ble_eq_true rfl⟩) (zPV hPc hK hDc (va_recv hK hP (ci := 11) (q0 := 2) rfl rfl)) rfl rfl hl.1 rfl (lv_room (Nat.le_of_ble_eq_true rfl)) dL_law_1010 ⟨Nat.le_of_ble_eq_true rfl, Nat.le_of_ble_eq_true rfl⟩) hS (fun q _ h => hFc q h) hFc (fun r_10 u t H locs ht hvm hw hB hz1 hk1 hS => ?_)
  have hP := zkeep hP hk1
  have hw : r_10 = (-1) := hw
  subst hw
  refine lv_icmp_eq (tgt := 1825) hx hb dL_law_1013 (by decide) (fun _ => ?_) (fun c => absurd (by decide) c)
  exact law_end C0 hS (lv_sub hl [0, 4] rfl)
set_option maxHeartbeats 4000000 in
set_option maxRecDepth 100000 in
theorem law_case_23 {p : Program} {l : Launch} {e : Env} {s : State} {m : MethodId} {below : List Frame} {meth : Method} {c : Code} {b : Nat} {xs : Nat → Int32} {dC : Nat → ClassId} {dI : Nat → Nat → Nat} {cI cJ : ClassId} {xh0 mh0 o0 xq1 xq4 xq6 xq9 xq14 xq19 xq20 xq25 xq30 xq33 xq39 xq45 xq47 xq16 xq17 xq18 mq1 mq2 mq3 mq4 mq5 mq6 mq7 mq8 mq9 mq10 mq11 mq12 mq13 mq14 mq15 mq16 mq17 mq18 mq19 mq20 mq21 mq22 mq23 g0 : Nat} (hl0 : l.stackTraces = false) (C0 : lw_At p s m meth c b 7 xs) (hK : va_K (dC, dI) vwCl [(cI, .int), (cJ, .long)] s) (hF : zF g0 (fun q : Nat => s.heap.size ≤ q) s) (hG : zG (fun q : Nat => s.heap.size ≤ q) s) {H : Heap} {locs : List Loc} (hP : va_P (dC, dI) vwCl [(xh0, .inr (10, [.ref xq1, .ref xq4, .ref xq6, .ref xq9, .ref xq14, .ref xq19, .ref xq20, .ref xq25, .ref xq30, .ref xq33, .ref xq39, .ref xq45, .ref xq47, .int 0, .int (-1), .int 0, .int 0])), (xq14, .inr (1, [.ref xq16, .ref xq17, .ref xq18, .int 0, .int 0])), (mh0, .inr (11, [.int 0, .ref mq1, .int 0, .int 0, .int 0, .int 0, .ref mq2, .ref mq3, .ref mq4, .ref mq5, .ref mq6, .ref mq7, .ref mq8, .int 0, .int 0, .ref mq9, .ref mq10, .ref mq11, .ref mq12, .ref mq13, .int 0, .int 0, .ref mq14, .ref mq15, .ref mq16, .int 0, .int 0, .ref mq17, .ref mq18, .int (-1), .int 0, .ref mq19, .int 0, .long 0, .ref mq20, .int 0, .int 0, .ref mq21, .ref mq22, .ref mq23, .int 0]))] H) (hD : va_D (fun q : Nat => s.heap.size ≤ q) [(xh0, .inr (10, [.ref xq1, .ref xq4, .ref xq6, .ref xq9, .ref xq14, .ref xq19, .ref xq20, .ref xq25, .ref xq30, .ref xq33, .ref xq39, .ref xq45, .ref xq47, .int 0, .int (-1), .int 0, .int 0])), (xq14, .inr (1, [.ref xq16, .ref xq17, .ref xq18, .int 0, .int 0])), (mh0, .inr (11, [.int 0, .ref mq1, .int 0, .int 0, .int 0, .int 0, .ref mq2, .ref mq3, .ref mq4, .ref mq5, .ref mq6, .ref mq7, .ref mq8, .int 0, .int 0, .ref mq9, .ref mq10, .ref mq11, .ref mq12, .ref mq13, .int 0, .int 0, .ref mq14, .ref mq15, .ref mq16, .int 0, .int 0, .ref mq17, .ref mq18, .int (-1), .int 0, .ref mq19, .int 0, .long 0, .ref mq20, .int 0, .int 0, .ref mq21, .ref mq22, .ref mq23, .int 0]))]) (hS : va_S (fun q : Nat => s.heap.size ≤ q) s.heap H locs) {ls : Array Slot} (hl : lv_has ls 7 [(0, .ref b), (1, .ref xh0), (2, .ref mh0), (3, .ref o0), (4, .int 0)]) : W p l e room_1 s m #[Value.ref b] below meth c H locs 62 13545 (lw_Z below #[Value.ref b] s) (F0 m 1018 ls []) := by
  obtain ⟨hx, hb, hr, hml, hown, hts0, hX, hbl, hlocks, hgv⟩ := id C0
  have hts : ∀ w ∈ wA, w.before #[Value.ref b] s = true := fun w h => hts0 w (List.mem_filter.mp h).1
  have hown : s.vm.findClass RL = some m.cls := hown
  have hA : ∀ q : Nat, s.heap.size ≤ q → (fun q : Nat => s.heap.size ≤ q) q := fun _ h => h
  have hbA : ¬ (fun q : Nat => s.heap.size ≤ q) b := Nat.not_le.mpr hbl
  refine lv_aload_n hx hb dL_law_1018 rfl (lv_at hl 1 rfl) ?_
  refine lv_aload_n hx hb dL_law_1019 rfl (lv_at hl 0 rfl) ?_
  refine lv_iload hx hb dL_law_1020 (lv_at hl 4 rfl) ?_
  refine lv_iconst (v := 1) hx hb dL_law_1022 (by decide) ?_
  refine lv_iadd hx hb dL_law_1023 ?_
  refine lv_topi (fun v_1 ev_1 => ?_)
  obtain rfl : v_1 = 1 := ev_1.trans (by decide)
  refine va_sld hx hb hX hbl hbA hS (by unfold vp_in; decide) dL_law_1024 ?_
  refine lv_topi (fun v_2 ev_2 => ?_)
  obtain rfl : v_2 = xs 1 := ev_2
  have hPc := hP.sub (ws' := [(xh0, .inr (10, [.ref xq1, .ref xq4, .ref xq6, .ref xq9, .ref xq14, .ref xq19, .ref xq20, .ref xq25, .ref xq30, .ref xq33, .ref xq39, .ref xq45, .ref xq47, .int 0, .int (-1), .int 0, .int 0])), (xq14, .inr (1, [.ref xq16, .ref xq17, .ref xq18, .int 0, .int 0]))]) [0, 1] rfl
  have hDc := hD.sub (ws' := [(xh0, .inr (10, [.ref xq1, .ref xq4, .ref xq6, .ref xq9, .ref xq14, .ref xq19, .ref xq20, .ref xq25, .ref xq30, .ref xq33, .ref xq39, .ref xq45, .ref xq47, .int 0, .int (-1), .int 0, .int 0])), (xq14, .inr (1, [.ref xq16, .ref xq17, .ref xq18, .int 0, .int 0]))]) [0, 1] (by decide) rfl
  have hFc := zfr hS hA
  refine va_calli (va_runV (As := [.int (xs 1)]) (rest := []) ⟨hx, hb, hml, hown, hts⟩ (c_X10_fits l dC dI cI cJ xh0 xq1 xq4 xq6 xq9 xq14 xq19 xq20 xq25 xq30 xq33 xq39 xq45 xq47 xq16 xq17 xq18 H.size (xs 1)) (cwV 1 hts (zgV qw815 qw816 qw817 qw98 qw818) rfl rfl rfl hd_X10_fits ⟨Nat.le_of_ble_eq_true rfl, Nat.le_of_ble_eq_true rfl⟩) (zPV hPc hK hDc (va_recv hK hP (ci := 10) (q0 := 0) rfl rfl)) rfl rfl hl.1 rfl (lv_room (Nat.le_of_ble_eq_true rfl)) dL_law_1025 ⟨Nat.le_of_ble_eq_true rfl, Nat.le_of_ble_eq_true rfl⟩) hS (fun q _ h => hFc q h) hFc (fun r_3 u t H locs ht hvm hw hB hz1 hk1 hS => ?_)
  have hP := zkeep hP hk1
  have hw : r_3 = (-1) := hw
  subst hw
  refine lv_aload_n hx hb dL_law_1028 rfl (lv_at hl 2 rfl) ?_
  refine lv_aload_n hx hb dL_law_1029 rfl (lv_at hl 0 rfl) ?_
  refine lv_iload hx hb dL_law_1030 (lv_at hl 4 rfl) ?_
  refine lv_iconst (v := 1) hx hb dL_law_1032 (by decide) ?_
  refine lv_iadd hx hb dL_law_1033 ?_
  refine lv_topi (fun v_4 ev_4 => ?_)
  obtain rfl : v_4 = 1 := ev_4.trans (by decide)
  refine va_sld hx hb hX hbl hbA hS (by unfold vp_in; decide) dL_law_1034 ?_
  refine lv_topi (fun v_5 ev_5 => ?_)
  obtain rfl : v_5 = xs 1 := ev_5
  have hPc := hP.sub (ws' := [(mh0, .inr (11, [.int 0, .ref mq1, .int 0, .int 0, .int 0, .int 0, .ref mq2, .ref mq3, .ref mq4, .ref mq5, .ref mq6, .ref mq7, .ref mq8, .int 0, .int 0, .ref mq9, .ref mq10, .ref mq11, .ref mq12, .ref mq13, .int 0, .int 0, .ref mq14, .ref mq15, .ref mq16, .int 0, .int 0, .ref mq17, .ref mq18, .int (-1), .int 0, .ref mq19, .int 0, .long 0, .ref mq20, .int 0, .int 0, .ref mq21, .ref mq22, .ref mq23, .int 0]))]) [2] rfl
  have hDc := hD.sub (ws' := [(mh0, .inr (11, [.int 0, .ref mq1, .int 0, .int 0, .int 0, .int 0, .ref mq2, .ref mq3, .ref mq4, .ref mq5, .ref mq6, .ref mq7, .ref mq8, .int 0, .int 0, .ref mq9, .ref mq10, .ref mq11, .ref mq12, .ref mq13, .int 0, .int 0, .ref mq14, .ref mq15, .ref mq16, .int 0, .int 0, .ref mq17, .ref mq18, .int (-1), .int 0, .ref mq19, .int 0, .long 0, .ref mq20, .int 0, .int 0, .ref mq21, .ref mq22, .ref mq23, .int 0]))]) [2] (by decide) rfl
  have hFc := zfr hS hA
  refine va_calli (va_runV (As := [.int (xs 1)]) (rest := [.int (-1)]) ⟨hx, hb, hml, hown, hts⟩ (c_X11_fits l dC dI cI cJ mh0 mq1 mq2 mq3 mq4 mq5 mq6 mq7 mq8 mq9 mq10 mq11 mq12 mq13 mq14 mq15 mq16 mq17 mq18 mq19 mq20 mq21 mq22 mq23 H.size (xs 1)) (cwV 1 hts (zgV qw1575 qw1576 qw1577 qw108 qw1578) rfl rfl rfl hd_X11_fits ⟨Nat.le_of_ble_eq_true rfl, Nat.le_of_ble_eq_true rfl⟩) (zPV hPc hK hDc (va_recv hK hP (ci := 11) (q0 := 2) rfl rfl)) rfl rfl hl.1 rfl (lv_room (Nat.le_of_ble_eq_true rfl)) dL_law_1035 ⟨Nat.le_of_ble_eq_true rfl, Nat.le_of_ble_eq_true rfl⟩) hS (fun q _ h => hFc q h) hFc (fun r_6 u t H locs ht hvm hw hB hz1 hk1 hS => ?_)
  have hP := zkeep hP hk1
  have hw : r_6 = (-1) := hw
  subst hw
  refine lv_icmp_eq (tgt := 1825) hx hb dL_law_1038 (by decide) (fun _ => ?_) (fun c => absurd (by decide) c)
  exact law_end C0 hS (lv_sub hl [0, 4] rfl)
set_option maxHeartbeats 4000000 in
set_option maxRecDepth 100000 in
theorem law_case_24 {p : Program} {l : Launch} {e : Env} {s : State} {m : MethodId} {below : List Frame} {meth : Method} {c : Code} {b : Nat} {xs : Nat → Int32} {dC : Nat → ClassId} {dI : Nat → Nat → Nat} {cI cJ : ClassId} {xh0 mh0 o0 xq1 xq4 xq6 xq9 xq14 xq19 xq20 xq25 xq30 xq33 xq39 xq45 xq47 xq16 xq17 xq18 mq1 mq2 mq3 mq4 mq5 mq6 mq7 mq8 mq9 mq10 mq11 mq12 mq13 mq14 mq15 mq16 mq17 mq18 mq19 mq20 mq21 mq22 mq23 g0 : Nat} (hl0 : l.stackTraces = false) (C0 : lw_At p s m meth c b 7 xs) (hK : va_K (dC, dI) vwCl [(cI, .int), (cJ, .long)] s) (hF : zF g0 (fun q : Nat => s.heap.size ≤ q) s) (hG : zG (fun q : Nat => s.heap.size ≤ q) s) {H : Heap} {locs : List Loc} (hP : va_P (dC, dI) vwCl [(xh0, .inr (10, [.ref xq1, .ref xq4, .ref xq6, .ref xq9, .ref xq14, .ref xq19, .ref xq20, .ref xq25, .ref xq30, .ref xq33, .ref xq39, .ref xq45, .ref xq47, .int 0, .int (-1), .int 0, .int 0])), (xq14, .inr (1, [.ref xq16, .ref xq17, .ref xq18, .int 0, .int 0])), (mh0, .inr (11, [.int 0, .ref mq1, .int 0, .int 0, .int 0, .int 0, .ref mq2, .ref mq3, .ref mq4, .ref mq5, .ref mq6, .ref mq7, .ref mq8, .int 0, .int 0, .ref mq9, .ref mq10, .ref mq11, .ref mq12, .ref mq13, .int 0, .int 0, .ref mq14, .ref mq15, .ref mq16, .int 0, .int 0, .ref mq17, .ref mq18, .int (-1), .int 0, .ref mq19, .int 0, .long 0, .ref mq20, .int 0, .int 0, .ref mq21, .ref mq22, .ref mq23, .int 0]))] H) (hD : va_D (fun q : Nat => s.heap.size ≤ q) [(xh0, .inr (10, [.ref xq1, .ref xq4, .ref xq6, .ref xq9, .ref xq14, .ref xq19, .ref xq20, .ref xq25, .ref xq30, .ref xq33, .ref xq39, .ref xq45, .ref xq47, .int 0, .int (-1), .int 0, .int 0])), (xq14, .inr (1, [.ref xq16, .ref xq17, .ref xq18, .int 0, .int 0])), (mh0, .inr (11, [.int 0, .ref mq1, .int 0, .int 0, .int 0, .int 0, .ref mq2, .ref mq3, .ref mq4, .ref mq5, .ref mq6, .ref mq7, .ref mq8, .int 0, .int 0, .ref mq9, .ref mq10, .ref mq11, .ref mq12, .ref mq13, .int 0, .int 0, .ref mq14, .ref mq15, .ref mq16, .int 0, .int 0, .ref mq17, .ref mq18, .int (-1), .int 0, .ref mq19, .int 0, .long 0, .ref mq20, .int 0, .int 0, .ref mq21, .ref mq22, .ref mq23, .int 0]))]) (hS : va_S (fun q : Nat => s.heap.size ≤ q) s.heap H locs) {ls : Array Slot} (hl : lv_has ls 7 [(0, .ref b), (1, .ref xh0), (2, .ref mh0), (3, .ref o0), (4, .int 0)]) : W p l e room_1 s m #[Value.ref b] below meth c H locs 62 13545 (lw_Z below #[Value.ref b] s) (F0 m 1043 ls []) := by
  obtain ⟨hx, hb, hr, hml, hown, hts0, hX, hbl, hlocks, hgv⟩ := id C0
  have hts : ∀ w ∈ wA, w.before #[Value.ref b] s = true := fun w h => hts0 w (List.mem_filter.mp h).1
  have hown : s.vm.findClass RL = some m.cls := hown
  have hA : ∀ q : Nat, s.heap.size ≤ q → (fun q : Nat => s.heap.size ≤ q) q := fun _ h => h
  have hbA : ¬ (fun q : Nat => s.heap.size ≤ q) b := Nat.not_le.mpr hbl
  refine lv_aload_n hx hb dL_law_1043 rfl (lv_at hl 1 rfl) ?_
  refine lv_aload_n hx hb dL_law_1044 rfl (lv_at hl 0 rfl) ?_
  refine lv_iload hx hb dL_law_1045 (lv_at hl 4 rfl) ?_
  refine lv_iconst (v := 1) hx hb dL_law_1047 (by decide) ?_
  refine lv_iadd hx hb dL_law_1048 ?_
  refine lv_topi (fun v_1 ev_1 => ?_)
  obtain rfl : v_1 = 1 := ev_1.trans (by decide)
  refine va_sld hx hb hX hbl hbA hS (by unfold vp_in; decide) dL_law_1049 ?_
  refine lv_topi (fun v_2 ev_2 => ?_)
  obtain rfl : v_2 = xs 1 := ev_2
  refine lv_aload_n hx hb dL_law_1050 rfl (lv_at hl 0 rfl) ?_
  refine lv_iload hx hb dL_law_1051 (lv_at hl 4 rfl) ?_
  refine lv_iconst (v := 2) hx hb dL_law_1053 (by decide) ?_
  refine lv_iadd hx hb dL_law_1054 ?_
  refine lv_topi (fun v_3 ev_3 => ?_)
  obtain rfl : v_3 = 2 := ev_3.trans (by decide)
  refine va_sld hx hb hX hbl hbA hS (by unfold vp_in; decide) dL_law_1055 ?_
  refine lv_topi (fun v_4 ev_4 => ?_)
  obtain rfl : v_4 = xs 2 := ev_4
  have hPc := hP.sub (ws' := [(xh0, .inr (10, [.ref xq1, .ref xq4, .ref xq6, .ref xq9, .ref xq14, .ref xq19, .ref xq20, .ref xq25, .ref xq30, .ref xq33, .ref xq39, .ref xq45, .ref xq47, .int 0, .int (-1), .int 0, .int 0])), (xq14, .inr (1, [.ref xq16, .ref xq17, .ref xq18, .int 0, .int 0]))]) [0, 1] rfl
  have hDc := hD.sub (ws' := [(xh0, .inr (10, [.ref xq1, .ref xq4, .ref xq6, .ref xq9, .ref xq14, .ref xq19, .ref xq20, .ref xq25, .ref xq30, .ref xq33, .ref xq39, .ref xq45, .ref xq47, .int 0, .int (-1), .int 0, .int 0])), (xq14, .inr (1, [.ref xq16, .ref xq17, .ref xq18, .int 0, .int 0]))]) [0, 1] (by decide) rfl
  have hFc := zfr hS hA
  refine va_calli (va_runV (As := [.int (xs 1), .int (xs 2)]) (rest := []) ⟨hx, hb, hml, hown, hts⟩ (c_X10_belief l dC dI cI cJ xh0 xq1 xq4 xq6 xq9 xq14 xq19 xq20 xq25 xq30 xq33 xq39 xq45 xq47 xq16 xq17 xq18 H.size (xs 1) (xs 2)) (cwV 2 hts (zgV qw825 qw826 qw827 qw98 qw828) rfl rfl rfl hd_X10_belief ⟨Nat.le_of_ble_eq_true rfl, Nat.le_of_ble_eq_true rfl⟩) (zPV hPc hK hDc (va_recv hK hP (ci := 10) (q0 := 0) rfl rfl)) rfl rfl hl.1 rfl (lv_room (Nat.le_of_ble_eq_true rfl)) dL_law_1056 ⟨Nat.le_of_ble_eq_true rfl, Nat.le_of_ble_eq_true rfl⟩) hS (fun q _ h => hFc q h) hFc (fun r_5 u t H locs ht hvm hw hB hz1 hk1 hS => ?_)
  have hP := zkeep hP hk1
  have hw : r_5 = (-1) := hw
  subst hw
  refine lv_aload_n hx hb dL_law_1059 rfl (lv_at hl 2 rfl) ?_
  refine lv_aload_n hx hb dL_law_1060 rfl (lv_at hl 0 rfl) ?_
  refine lv_iload hx hb dL_law_1061 (lv_at hl 4 rfl) ?_
  refine lv_iconst (v := 1) hx hb dL_law_1063 (by decide) ?_
  refine lv_iadd hx hb dL_law_1064 ?_
  refine lv_topi (fun v_6 ev_6 => ?_)
  obtain rfl : v_6 = 1 := ev_6.trans (by decide)
  refine va_sld hx hb hX hbl hbA hS (by unfold vp_in; decide) dL_law_1065 ?_
  refine lv_topi (fun v_7 ev_7 => ?_)
  obtain rfl : v_7 = xs 1 := ev_7
  refine lv_aload_n hx hb dL_law_1066 rfl (lv_at hl 0 rfl) ?_
  refine lv_iload hx hb dL_law_1067 (lv_at hl 4 rfl) ?_
  refine lv_iconst (v := 2) hx hb dL_law_1069 (by decide) ?_
  refine lv_iadd hx hb dL_law_1070 ?_
  refine lv_topi (fun v_8 ev_8 => ?_)
  obtain rfl : v_8 = 2 := ev_8.trans (by decide)
  refine va_sld hx hb hX hbl hbA hS (by unfold vp_in; decide) dL_law_1071 ?_
  refine lv_topi (fun v_9 ev_9 => ?_)
  obtain rfl : v_9 = xs 2 := ev_9
  have hPc := hP.sub (ws' := [(mh0, .inr (11, [.int 0, .ref mq1, .int 0, .int 0, .int 0, .int 0, .ref mq2, .ref mq3, .ref mq4, .ref mq5, .ref mq6, .ref mq7, .ref mq8, .int 0, .int 0, .ref mq9, .ref mq10, .ref mq11, .ref mq12, .ref mq13, .int 0, .int 0, .ref mq14, .ref mq15, .ref mq16, .int 0, .int 0, .ref mq17, .ref mq18, .int (-1), .int 0, .ref mq19, .int 0, .long 0, .ref mq20, .int 0, .int 0, .ref mq21, .ref mq22, .ref mq23, .int 0]))]) [2] rfl
  have hDc := hD.sub (ws' := [(mh0, .inr (11, [.int 0, .ref mq1, .int 0, .int 0, .int 0, .int 0, .ref mq2, .ref mq3, .ref mq4, .ref mq5, .ref mq6, .ref mq7, .ref mq8, .int 0, .int 0, .ref mq9, .ref mq10, .ref mq11, .ref mq12, .ref mq13, .int 0, .int 0, .ref mq14, .ref mq15, .ref mq16, .int 0, .int 0, .ref mq17, .ref mq18, .int (-1), .int 0, .ref mq19, .int 0, .long 0, .ref mq20, .int 0, .int 0, .ref mq21, .ref mq22, .ref mq23, .int 0]))]) [2] (by decide) rfl
  have hFc := zfr hS hA
  refine va_calli (va_runV (As := [.int (xs 1), .int (xs 2)]) (rest := [.int (-1)]) ⟨hx, hb, hml, hown, hts⟩ (c_X11_belief l dC dI cI cJ mh0 mq1 mq2 mq3 mq4 mq5 mq6 mq7 mq8 mq9 mq10 mq11 mq12 mq13 mq14 mq15 mq16 mq17 mq18 mq19 mq20 mq21 mq22 mq23 H.size (xs 1) (xs 2)) (cwV 2 hts (zgV qw1587 qw1588 qw1589 qw108 qw1590) rfl rfl rfl hd_X11_belief ⟨Nat.le_of_ble_eq_true rfl, Nat.le_of_ble_eq_true rfl⟩) (zPV hPc hK hDc (va_recv hK hP (ci := 11) (q0 := 2) rfl rfl)) rfl rfl hl.1 rfl (lv_room (Nat.le_of_ble_eq_true rfl)) dL_law_1072 ⟨Nat.le_of_ble_eq_true rfl, Nat.le_of_ble_eq_true rfl⟩) hS (fun q _ h => hFc q h) hFc (fun r_10 u t H locs ht hvm hw hB hz1 hk1 hS => ?_)
  have hP := zkeep hP hk1
  have hw : r_10 = (-1) := hw
  subst hw
  refine lv_icmp_eq (tgt := 1825) hx hb dL_law_1075 (by decide) (fun _ => ?_) (fun c => absurd (by decide) c)
  exact law_end C0 hS (lv_sub hl [0, 4] rfl)
set_option maxHeartbeats 4000000 in
set_option maxRecDepth 100000 in
theorem law_case_25 {p : Program} {l : Launch} {e : Env} {s : State} {m : MethodId} {below : List Frame} {meth : Method} {c : Code} {b : Nat} {xs : Nat → Int32} {dC : Nat → ClassId} {dI : Nat → Nat → Nat} {cI cJ : ClassId} {xh0 mh0 o0 xq1 xq4 xq6 xq9 xq14 xq19 xq20 xq25 xq30 xq33 xq39 xq45 xq47 xq16 xq17 xq18 mq1 mq2 mq3 mq4 mq5 mq6 mq7 mq8 mq9 mq10 mq11 mq12 mq13 mq14 mq15 mq16 mq17 mq18 mq19 mq20 mq21 mq22 mq23 g0 : Nat} (hl0 : l.stackTraces = false) (C0 : lw_At p s m meth c b 7 xs) (hK : va_K (dC, dI) vwCl [(cI, .int), (cJ, .long)] s) (hF : zF g0 (fun q : Nat => s.heap.size ≤ q) s) (hG : zG (fun q : Nat => s.heap.size ≤ q) s) {H : Heap} {locs : List Loc} (hP : va_P (dC, dI) vwCl [(xh0, .inr (10, [.ref xq1, .ref xq4, .ref xq6, .ref xq9, .ref xq14, .ref xq19, .ref xq20, .ref xq25, .ref xq30, .ref xq33, .ref xq39, .ref xq45, .ref xq47, .int 0, .int (-1), .int 0, .int 0])), (xq14, .inr (1, [.ref xq16, .ref xq17, .ref xq18, .int 0, .int 0])), (mh0, .inr (11, [.int 0, .ref mq1, .int 0, .int 0, .int 0, .int 0, .ref mq2, .ref mq3, .ref mq4, .ref mq5, .ref mq6, .ref mq7, .ref mq8, .int 0, .int 0, .ref mq9, .ref mq10, .ref mq11, .ref mq12, .ref mq13, .int 0, .int 0, .ref mq14, .ref mq15, .ref mq16, .int 0, .int 0, .ref mq17, .ref mq18, .int (-1), .int 0, .ref mq19, .int 0, .long 0, .ref mq20, .int 0, .int 0, .ref mq21, .ref mq22, .ref mq23, .int 0]))] H) (hD : va_D (fun q : Nat => s.heap.size ≤ q) [(xh0, .inr (10, [.ref xq1, .ref xq4, .ref xq6, .ref xq9, .ref xq14, .ref xq19, .ref xq20, .ref xq25, .ref xq30, .ref xq33, .ref xq39, .ref xq45, .ref xq47, .int 0, .int (-1), .int 0, .int 0])), (xq14, .inr (1, [.ref xq16, .ref xq17, .ref xq18, .int 0, .int 0])), (mh0, .inr (11, [.int 0, .ref mq1, .int 0, .int 0, .int 0, .int 0, .ref mq2, .ref mq3, .ref mq4, .ref mq5, .ref mq6, .ref mq7, .ref mq8, .int 0, .int 0, .ref mq9, .ref mq10, .ref mq11, .ref mq12, .ref mq13, .int 0, .int 0, .ref mq14, .ref mq15, .ref mq16, .int 0, .int 0, .ref mq17, .ref mq18, .int (-1), .int 0, .ref mq19, .int 0, .long 0, .ref mq20, .int 0, .int 0, .ref mq21, .ref mq22, .ref mq23, .int 0]))]) (hS : va_S (fun q : Nat => s.heap.size ≤ q) s.heap H locs) {ls : Array Slot} (hl : lv_has ls 7 [(0, .ref b), (1, .ref xh0), (2, .ref mh0), (3, .ref o0), (4, .int 0)]) : W p l e room_1 s m #[Value.ref b] below meth c H locs 62 13545 (lw_Z below #[Value.ref b] s) (F0 m 1080 ls []) := by
  obtain ⟨hx, hb, hr, hml, hown, hts0, hX, hbl, hlocks, hgv⟩ := id C0
  have hts : ∀ w ∈ wA, w.before #[Value.ref b] s = true := fun w h => hts0 w (List.mem_filter.mp h).1
  have hown : s.vm.findClass RL = some m.cls := hown
  have hA : ∀ q : Nat, s.heap.size ≤ q → (fun q : Nat => s.heap.size ≤ q) q := fun _ h => h
  have hbA : ¬ (fun q : Nat => s.heap.size ≤ q) b := Nat.not_le.mpr hbl
  refine lv_aload_n hx hb dL_law_1080 rfl (lv_at hl 1 rfl) ?_
  refine lv_aload_n hx hb dL_law_1081 rfl (lv_at hl 0 rfl) ?_
  refine lv_iload hx hb dL_law_1082 (lv_at hl 4 rfl) ?_
  refine lv_iconst (v := 1) hx hb dL_law_1084 (by decide) ?_
  refine lv_iadd hx hb dL_law_1085 ?_
  refine lv_topi (fun v_1 ev_1 => ?_)
  obtain rfl : v_1 = 1 := ev_1.trans (by decide)
  refine va_sld hx hb hX hbl hbA hS (by unfold vp_in; decide) dL_law_1086 ?_
  refine lv_topi (fun v_2 ev_2 => ?_)
  obtain rfl : v_2 = xs 1 := ev_2
  refine lv_aload_n hx hb dL_law_1087 rfl (lv_at hl 0 rfl) ?_
  refine lv_iload hx hb dL_law_1088 (lv_at hl 4 rfl) ?_
  refine lv_iconst (v := 2) hx hb dL_law_1090 (by decide) ?_
  refine lv_iadd hx hb dL_law_1091 ?_
  refine lv_topi (fun v_3 ev_3 => ?_)
  obtain rfl : v_3 = 2 := ev_3.trans (by decide)
  refine va_sld hx hb hX hbl hbA hS (by unfold vp_in; decide) dL_law_1092 ?_
  refine lv_topi (fun v_4 ev_4 => ?_)
  obtain rfl : v_4 = xs 2 := ev_4
  have hPc := hP.sub (ws' := [(xh0, .inr (10, [.ref xq1, .ref xq4, .ref xq6, .ref xq9, .ref xq14, .ref xq19, .ref xq20, .ref xq25, .ref xq30, .ref xq33, .ref xq39, .ref xq45, .ref xq47, .int 0, .int (-1), .int 0, .int 0])), (xq14, .inr (1, [.ref xq16, .ref xq17, .ref xq18, .int 0, .int 0]))]) [0, 1] rfl
  have hDc := hD.sub (ws' := [(xh0, .inr (10, [.ref xq1, .ref xq4, .ref xq6, .ref xq9, .ref xq14, .ref xq19, .ref xq20, .ref xq25, .ref xq30, .ref xq33, .ref xq39, .ref xq45, .ref xq47, .int 0, .int (-1), .int 0, .int 0])), (xq14, .inr (1, [.ref xq16, .ref xq17, .ref xq18, .int 0, .int 0]))]) [0, 1] (by decide) rfl
  have hFc := zfr hS hA
  refine va_calli (va_runV (As := [.int (xs 1), .int (xs 2)]) (rest := []) ⟨hx, hb, hml, hown, hts⟩ (c_X10_likely l dC dI cI cJ xh0 xq1 xq4 xq6 xq9 xq14 xq19 xq20 xq25 xq30 xq33 xq39 xq45 xq47 xq16 xq17 xq18 H.size (xs 1) (xs 2)) (cwV 2 hts (zgV qw856 qw857 qw858 qw98 qw859) rfl rfl rfl hd_X10_likely ⟨Nat.le_of_ble_eq_true rfl, Nat.le_of_ble_eq_true rfl⟩) (zPV hPc hK hDc (va_recv hK hP (ci := 10) (q0 := 0) rfl rfl)) rfl rfl hl.1 rfl (lv_room (Nat.le_of_ble_eq_true rfl)) dL_law_1093 ⟨Nat.le_of_ble_eq_true rfl, Nat.le_of_ble_eq_true rfl⟩) hS (fun q _ h => hFc q h) hFc (fun r_5 u t H locs ht hvm hw hB hz1 hk1 hS => ?_)
  have hP := zkeep hP hk1
  have hw : r_5 = (-1) := hw
  subst hw
  refine lv_aload_n hx hb dL_law_1096 rfl (lv_at hl 2 rfl) ?_
  refine lv_aload_n hx hb dL_law_1097 rfl (lv_at hl 0 rfl) ?_
  refine lv_iload hx hb dL_law_1098 (lv_at hl 4 rfl) ?_
  refine lv_iconst (v := 1) hx hb dL_law_1100 (by decide) ?_
  refine lv_iadd hx hb dL_law_1101 ?_
  refine lv_topi (fun v_6 ev_6 => ?_)
  obtain rfl : v_6 = 1 := ev_6.trans (by decide)
  refine va_sld hx hb hX hbl hbA hS (by unfold vp_in; decide) dL_law_1102 ?_
  refine lv_topi (fun v_7 ev_7 => ?_)
  obtain rfl : v_7 = xs 1 := ev_7
  refine lv_aload_n hx hb dL_law_1103 rfl (lv_at hl 0 rfl) ?_
  refine lv_iload hx hb dL_law_1104 (lv_at hl 4 rfl) ?_
  refine lv_iconst (v := 2) hx hb dL_law_1106 (by decide) ?_
  refine lv_iadd hx hb dL_law_1107 ?_
  refine lv_topi (fun v_8 ev_8 => ?_)
  obtain rfl : v_8 = 2 := ev_8.trans (by decide)
  refine va_sld hx hb hX hbl hbA hS (by unfold vp_in; decide) dL_law_1108 ?_
  refine lv_topi (fun v_9 ev_9 => ?_)
  obtain rfl : v_9 = xs 2 := ev_9
  have hPc := hP.sub (ws' := [(mh0, .inr (11, [.int 0, .ref mq1, .int 0, .int 0, .int 0, .int 0, .ref mq2, .ref mq3, .ref mq4, .ref mq5, .ref mq6, .ref mq7, .ref mq8, .int 0, .int 0, .ref mq9, .ref mq10, .ref mq11, .ref mq12, .ref mq13, .int 0, .int 0, .ref mq14, .ref mq15, .ref mq16, .int 0, .int 0, .ref mq17, .ref mq18, .int (-1), .int 0, .ref mq19, .int 0, .long 0, .ref mq20, .int 0, .int 0, .ref mq21, .ref mq22, .ref mq23, .int 0]))]) [2] rfl
  have hDc := hD.sub (ws' := [(mh0, .inr (11, [.int 0, .ref mq1, .int 0, .int 0, .int 0, .int 0, .ref mq2, .ref mq3, .ref mq4, .ref mq5, .ref mq6, .ref mq7, .ref mq8, .int 0, .int 0, .ref mq9, .ref mq10, .ref mq11, .ref mq12, .ref mq13, .int 0, .int 0, .ref mq14, .ref mq15, .ref mq16, .int 0, .int 0, .ref mq17, .ref mq18, .int (-1), .int 0, .ref mq19, .int 0, .long 0, .ref mq20, .int 0, .int 0, .ref mq21, .ref mq22, .ref mq23, .int 0]))]) [2] (by decide) rfl
  have hFc := zfr hS hA
  refine va_calli (va_runV (As := [.int (xs 1), .int (xs 2)]) (rest := [.int (-1)]) ⟨hx, hb, hml, hown, hts⟩ (c_X11_likely l dC dI cI cJ mh0 mq1 mq2 mq3 mq4 mq5 mq6 mq7 mq8 mq9 mq10 mq11 mq12 mq13 mq14 mq15 mq16 mq17 mq18 mq19 mq20 mq21 mq22 mq23 H.size (xs 1) (xs 2)) (cwV 2 hts (zgV qw1600 qw1601 qw1602 qw108 qw1603) rfl rfl rfl hd_X11_likely ⟨Nat.le_of_ble_eq_true rfl, Nat.le_of_ble_eq_true rfl⟩) (zPV hPc hK hDc (va_recv hK hP (ci := 11) (q0 := 2) rfl rfl)) rfl rfl hl.1 rfl (lv_room (Nat.le_of_ble_eq_true rfl)) dL_law_1109 ⟨Nat.le_of_ble_eq_true rfl, Nat.le_of_ble_eq_true rfl⟩) hS (fun q _ h => hFc q h) hFc (fun r_10 u t H locs ht hvm hw hB hz1 hk1 hS => ?_)
  have hP := zkeep hP hk1
  have hw : r_10 = (-1) := hw
  subst hw
  refine lv_icmp_eq (tgt := 1825) hx hb dL_law_1112 (by decide) (fun _ => ?_) (fun c => absurd (by decide) c)
  exact law_end C0 hS (lv_sub hl [0, 4] rfl)
set_option maxHeartbeats 4000000 in
set_option maxRecDepth 100000 in
theorem law_case_26 {p : Program} {l : Launch} {e : Env} {s : State} {m : MethodId} {below : List Frame} {meth : Method} {c : Code} {b : Nat} {xs : Nat → Int32} {dC : Nat → ClassId} {dI : Nat → Nat → Nat} {cI cJ : ClassId} {xh0 mh0 o0 xq1 xq4 xq6 xq9 xq14 xq19 xq20 xq25 xq30 xq33 xq39 xq45 xq47 xq16 xq17 xq18 mq1 mq2 mq3 mq4 mq5 mq6 mq7 mq8 mq9 mq10 mq11 mq12 mq13 mq14 mq15 mq16 mq17 mq18 mq19 mq20 mq21 mq22 mq23 g0 : Nat} (hl0 : l.stackTraces = false) (C0 : lw_At p s m meth c b 7 xs) (hK : va_K (dC, dI) vwCl [(cI, .int), (cJ, .long)] s) (hF : zF g0 (fun q : Nat => s.heap.size ≤ q) s) (hG : zG (fun q : Nat => s.heap.size ≤ q) s) {H : Heap} {locs : List Loc} (hP : va_P (dC, dI) vwCl [(xh0, .inr (10, [.ref xq1, .ref xq4, .ref xq6, .ref xq9, .ref xq14, .ref xq19, .ref xq20, .ref xq25, .ref xq30, .ref xq33, .ref xq39, .ref xq45, .ref xq47, .int 0, .int (-1), .int 0, .int 0])), (xq14, .inr (1, [.ref xq16, .ref xq17, .ref xq18, .int 0, .int 0])), (mh0, .inr (11, [.int 0, .ref mq1, .int 0, .int 0, .int 0, .int 0, .ref mq2, .ref mq3, .ref mq4, .ref mq5, .ref mq6, .ref mq7, .ref mq8, .int 0, .int 0, .ref mq9, .ref mq10, .ref mq11, .ref mq12, .ref mq13, .int 0, .int 0, .ref mq14, .ref mq15, .ref mq16, .int 0, .int 0, .ref mq17, .ref mq18, .int (-1), .int 0, .ref mq19, .int 0, .long 0, .ref mq20, .int 0, .int 0, .ref mq21, .ref mq22, .ref mq23, .int 0]))] H) (hD : va_D (fun q : Nat => s.heap.size ≤ q) [(xh0, .inr (10, [.ref xq1, .ref xq4, .ref xq6, .ref xq9, .ref xq14, .ref xq19, .ref xq20, .ref xq25, .ref xq30, .ref xq33, .ref xq39, .ref xq45, .ref xq47, .int 0, .int (-1), .int 0, .int 0])), (xq14, .inr (1, [.ref xq16, .ref xq17, .ref xq18, .int 0, .int 0])), (mh0, .inr (11, [.int 0, .ref mq1, .int 0, .int 0, .int 0, .int 0, .ref mq2, .ref mq3, .ref mq4, .ref mq5, .ref mq6, .ref mq7, .ref mq8, .int 0, .int 0, .ref mq9, .ref mq10, .ref mq11, .ref mq12, .ref mq13, .int 0, .int 0, .ref mq14, .ref mq15, .ref mq16, .int 0, .int 0, .ref mq17, .ref mq18, .int (-1), .int 0, .ref mq19, .int 0, .long 0, .ref mq20, .int 0, .int 0, .ref mq21, .ref mq22, .ref mq23, .int 0]))]) (hS : va_S (fun q : Nat => s.heap.size ≤ q) s.heap H locs) {ls : Array Slot} (hl : lv_has ls 7 [(0, .ref b), (1, .ref xh0), (2, .ref mh0), (3, .ref o0), (4, .int 0)]) : W p l e room_1 s m #[Value.ref b] below meth c H locs 62 13545 (lw_Z below #[Value.ref b] s) (F0 m 1117 ls []) := by
  obtain ⟨hx, hb, hr, hml, hown, hts0, hX, hbl, hlocks, hgv⟩ := id C0
  have hts : ∀ w ∈ wA, w.before #[Value.ref b] s = true := fun w h => hts0 w (List.mem_filter.mp h).1
  have hown : s.vm.findClass RL = some m.cls := hown
  have hA : ∀ q : Nat, s.heap.size ≤ q → (fun q : Nat => s.heap.size ≤ q) q := fun _ h => h
  have hbA : ¬ (fun q : Nat => s.heap.size ≤ q) b := Nat.not_le.mpr hbl
  refine lv_aload_n hx hb dL_law_1117 rfl (lv_at hl 1 rfl) ?_
  refine lv_aload_n hx hb dL_law_1118 rfl (lv_at hl 0 rfl) ?_
  refine lv_iload hx hb dL_law_1119 (lv_at hl 4 rfl) ?_
  refine lv_iconst (v := 1) hx hb dL_law_1121 (by decide) ?_
  refine lv_iadd hx hb dL_law_1122 ?_
  refine lv_topi (fun v_1 ev_1 => ?_)
  obtain rfl : v_1 = 1 := ev_1.trans (by decide)
  refine va_sld hx hb hX hbl hbA hS (by unfold vp_in; decide) dL_law_1123 ?_
  refine lv_topi (fun v_2 ev_2 => ?_)
  obtain rfl : v_2 = xs 1 := ev_2
  refine lv_aload_n hx hb dL_law_1124 rfl (lv_at hl 0 rfl) ?_
  refine lv_iload hx hb dL_law_1125 (lv_at hl 4 rfl) ?_
  refine lv_iconst (v := 2) hx hb dL_law_1127 (by decide) ?_
  refine lv_iadd hx hb dL_law_1128 ?_
  refine lv_topi (fun v_3 ev_3 => ?_)
  obtain rfl : v_3 = 2 := ev_3.trans (by decide)
  refine va_sld hx hb hX hbl hbA hS (by unfold vp_in; decide) dL_law_1129 ?_
  refine lv_topi (fun v_4 ev_4 => ?_)
  obtain rfl : v_4 = xs 2 := ev_4
  have hPc := hP.sub (ws' := [(xh0, .inr (10, [.ref xq1, .ref xq4, .ref xq6, .ref xq9, .ref xq14, .ref xq19, .ref xq20, .ref xq25, .ref xq30, .ref xq33, .ref xq39, .ref xq45, .ref xq47, .int 0, .int (-1), .int 0, .int 0])), (xq14, .inr (1, [.ref xq16, .ref xq17, .ref xq18, .int 0, .int 0]))]) [0, 1] rfl
  have hDc := hD.sub (ws' := [(xh0, .inr (10, [.ref xq1, .ref xq4, .ref xq6, .ref xq9, .ref xq14, .ref xq19, .ref xq20, .ref xq25, .ref xq30, .ref xq33, .ref xq39, .ref xq45, .ref xq47, .int 0, .int (-1), .int 0, .int 0])), (xq14, .inr (1, [.ref xq16, .ref xq17, .ref xq18, .int 0, .int 0]))]) [0, 1] (by decide) rfl
  have hFc := zfr hS hA
  refine va_calli (va_runV (As := [.int (xs 1), .int (xs 2)]) (rest := []) ⟨hx, hb, hml, hown, hts⟩ (c_X10_sure l dC dI cI cJ xh0 xq1 xq4 xq6 xq9 xq14 xq19 xq20 xq25 xq30 xq33 xq39 xq45 xq47 xq16 xq17 xq18 H.size (xs 1) (xs 2)) (cwV 2 hts (zgV qw860 qw861 qw862 qw98 qw863) rfl rfl rfl hd_X10_sure ⟨Nat.le_of_ble_eq_true rfl, Nat.le_of_ble_eq_true rfl⟩) (zPV hPc hK hDc (va_recv hK hP (ci := 10) (q0 := 0) rfl rfl)) rfl rfl hl.1 rfl (lv_room (Nat.le_of_ble_eq_true rfl)) dL_law_1130 ⟨Nat.le_of_ble_eq_true rfl, Nat.le_of_ble_eq_true rfl⟩) hS (fun q _ h => hFc q h) hFc (fun r_5 u t H locs ht hvm hw hB hz1 hk1 hS => ?_)
  have hP := zkeep hP hk1
  have hw : r_5 = (-1) := hw
  subst hw
  refine lv_aload_n hx hb dL_law_1133 rfl (lv_at hl 2 rfl) ?_
  refine lv_aload_n hx hb dL_law_1134 rfl (lv_at hl 0 rfl) ?_
  refine lv_iload hx hb dL_law_1135 (lv_at hl 4 rfl) ?_
  refine lv_iconst (v := 1) hx hb dL_law_1137 (by decide) ?_
  refine lv_iadd hx hb dL_law_1138 ?_
  refine lv_topi (fun v_6 ev_6 => ?_)
  obtain rfl : v_6 = 1 := ev_6.trans (by decide)
  refine va_sld hx hb hX hbl hbA hS (by unfold vp_in; decide) dL_law_1139 ?_
  refine lv_topi (fun v_7 ev_7 => ?_)
  obtain rfl : v_7 = xs 1 := ev_7
  refine lv_aload_n hx hb dL_law_1140 rfl (lv_at hl 0 rfl) ?_
  refine lv_iload hx hb dL_law_1141 (lv_at hl 4 rfl) ?_
  refine lv_iconst (v := 2) hx hb dL_law_1143 (by decide) ?_
  refine lv_iadd hx hb dL_law_1144 ?_
  refine lv_topi (fun v_8 ev_8 => ?_)
  obtain rfl : v_8 = 2 := ev_8.trans (by decide)
  refine va_sld hx hb hX hbl hbA hS (by unfold vp_in; decide) dL_law_1145 ?_
  refine lv_topi (fun v_9 ev_9 => ?_)
  obtain rfl : v_9 = xs 2 := ev_9
  have hPc := hP.sub (ws' := [(mh0, .inr (11, [.int 0, .ref mq1, .int 0, .int 0, .int 0, .int 0, .ref mq2, .ref mq3, .ref mq4, .ref mq5, .ref mq6, .ref mq7, .ref mq8, .int 0, .int 0, .ref mq9, .ref mq10, .ref mq11, .ref mq12, .ref mq13, .int 0, .int 0, .ref mq14, .ref mq15, .ref mq16, .int 0, .int 0, .ref mq17, .ref mq18, .int (-1), .int 0, .ref mq19, .int 0, .long 0, .ref mq20, .int 0, .int 0, .ref mq21, .ref mq22, .ref mq23, .int 0]))]) [2] rfl
  have hDc := hD.sub (ws' := [(mh0, .inr (11, [.int 0, .ref mq1, .int 0, .int 0, .int 0, .int 0, .ref mq2, .ref mq3, .ref mq4, .ref mq5, .ref mq6, .ref mq7, .ref mq8, .int 0, .int 0, .ref mq9, .ref mq10, .ref mq11, .ref mq12, .ref mq13, .int 0, .int 0, .ref mq14, .ref mq15, .ref mq16, .int 0, .int 0, .ref mq17, .ref mq18, .int (-1), .int 0, .ref mq19, .int 0, .long 0, .ref mq20, .int 0, .int 0, .ref mq21, .ref mq22, .ref mq23, .int 0]))]) [2] (by decide) rfl
  have hFc := zfr hS hA
  refine va_calli (va_runV (As := [.int (xs 1), .int (xs 2)]) (rest := [.int (-1)]) ⟨hx, hb, hml, hown, hts⟩ (c_X11_sure l dC dI cI cJ mh0 mq1 mq2 mq3 mq4 mq5 mq6 mq7 mq8 mq9 mq10 mq11 mq12 mq13 mq14 mq15 mq16 mq17 mq18 mq19 mq20 mq21 mq22 mq23 H.size (xs 1) (xs 2)) (cwV 2 hts (zgV qw1608 qw1609 qw1610 qw108 qw1611) rfl rfl rfl hd_X11_sure ⟨Nat.le_of_ble_eq_true rfl, Nat.le_of_ble_eq_true rfl⟩) (zPV hPc hK hDc (va_recv hK hP (ci := 11) (q0 := 2) rfl rfl)) rfl rfl hl.1 rfl (lv_room (Nat.le_of_ble_eq_true rfl)) dL_law_1146 ⟨Nat.le_of_ble_eq_true rfl, Nat.le_of_ble_eq_true rfl⟩) hS (fun q _ h => hFc q h) hFc (fun r_10 u t H locs ht hvm hw hB hz1 hk1 hS => ?_)
  have hP := zkeep hP hk1
  have hw : r_10 = (-1) := hw
  subst hw
  refine lv_icmp_eq (tgt := 1825) hx hb dL_law_1149 (by decide) (fun _ => ?_) (fun c => absurd (by decide) c)
  exact law_end C0 hS (lv_sub hl [0, 4] rfl)
set_option maxHeartbeats 4000000 in
set_option maxRecDepth 100000 in
theorem law_case_27 {p : Program} {l : Launch} {e : Env} {s : State} {m : MethodId} {below : List Frame} {meth : Method} {c : Code} {b : Nat} {xs : Nat → Int32} {dC : Nat → ClassId} {dI : Nat → Nat → Nat} {cI cJ : ClassId} {xh0 mh0 o0 xq1 xq4 xq6 xq9 xq14 xq19 xq20 xq25 xq30 xq33 xq39 xq45 xq47 xq16 xq17 xq18 mq1 mq2 mq3 mq4 mq5 mq6 mq7 mq8 mq9 mq10 mq11 mq12 mq13 mq14 mq15 mq16 mq17 mq18 mq19 mq20 mq21 mq22 mq23 g0 : Nat} (hl0 : l.stackTraces = false) (C0 : lw_At p s m meth c b 7 xs) (hK : va_K (dC, dI) vwCl [(cI, .int), (cJ, .long)] s) (hF : zF g0 (fun q : Nat => s.heap.size ≤ q) s) (hG : zG (fun q : Nat => s.heap.size ≤ q) s) {H : Heap} {locs : List Loc} (hP : va_P (dC, dI) vwCl [(xh0, .inr (10, [.ref xq1, .ref xq4, .ref xq6, .ref xq9, .ref xq14, .ref xq19, .ref xq20, .ref xq25, .ref xq30, .ref xq33, .ref xq39, .ref xq45, .ref xq47, .int 0, .int (-1), .int 0, .int 0])), (xq14, .inr (1, [.ref xq16, .ref xq17, .ref xq18, .int 0, .int 0])), (mh0, .inr (11, [.int 0, .ref mq1, .int 0, .int 0, .int 0, .int 0, .ref mq2, .ref mq3, .ref mq4, .ref mq5, .ref mq6, .ref mq7, .ref mq8, .int 0, .int 0, .ref mq9, .ref mq10, .ref mq11, .ref mq12, .ref mq13, .int 0, .int 0, .ref mq14, .ref mq15, .ref mq16, .int 0, .int 0, .ref mq17, .ref mq18, .int (-1), .int 0, .ref mq19, .int 0, .long 0, .ref mq20, .int 0, .int 0, .ref mq21, .ref mq22, .ref mq23, .int 0]))] H) (hD : va_D (fun q : Nat => s.heap.size ≤ q) [(xh0, .inr (10, [.ref xq1, .ref xq4, .ref xq6, .ref xq9, .ref xq14, .ref xq19, .ref xq20, .ref xq25, .ref xq30, .ref xq33, .ref xq39, .ref xq45, .ref xq47, .int 0, .int (-1), .int 0, .int 0])), (xq14, .inr (1, [.ref xq16, .ref xq17, .ref xq18, .int 0, .int 0])), (mh0, .inr (11, [.int 0, .ref mq1, .int 0, .int 0, .int 0, .int 0, .ref mq2, .ref mq3, .ref mq4, .ref mq5, .ref mq6, .ref mq7, .ref mq8, .int 0, .int 0, .ref mq9, .ref mq10, .ref mq11, .ref mq12, .ref mq13, .int 0, .int 0, .ref mq14, .ref mq15, .ref mq16, .int 0, .int 0, .ref mq17, .ref mq18, .int (-1), .int 0, .ref mq19, .int 0, .long 0, .ref mq20, .int 0, .int 0, .ref mq21, .ref mq22, .ref mq23, .int 0]))]) (hS : va_S (fun q : Nat => s.heap.size ≤ q) s.heap H locs) {ls : Array Slot} (hl : lv_has ls 7 [(0, .ref b), (1, .ref xh0), (2, .ref mh0), (3, .ref o0), (4, .int 0)]) : W p l e room_1 s m #[Value.ref b] below meth c H locs 62 13545 (lw_Z below #[Value.ref b] s) (F0 m 1154 ls []) := by
  obtain ⟨hx, hb, hr, hml, hown, hts0, hX, hbl, hlocks, hgv⟩ := id C0
  have hts : ∀ w ∈ wA, w.before #[Value.ref b] s = true := fun w h => hts0 w (List.mem_filter.mp h).1
  have hown : s.vm.findClass RL = some m.cls := hown
  have hA : ∀ q : Nat, s.heap.size ≤ q → (fun q : Nat => s.heap.size ≤ q) q := fun _ h => h
  have hbA : ¬ (fun q : Nat => s.heap.size ≤ q) b := Nat.not_le.mpr hbl
  refine lv_aload_n hx hb dL_law_1154 rfl (lv_at hl 1 rfl) ?_
  refine lv_aload_n hx hb dL_law_1155 rfl (lv_at hl 0 rfl) ?_
  refine lv_iload hx hb dL_law_1156 (lv_at hl 4 rfl) ?_
  refine lv_iconst (v := 1) hx hb dL_law_1158 (by decide) ?_
  refine lv_iadd hx hb dL_law_1159 ?_
  refine lv_topi (fun v_1 ev_1 => ?_)
  obtain rfl : v_1 = 1 := ev_1.trans (by decide)
  refine va_sld hx hb hX hbl hbA hS (by unfold vp_in; decide) dL_law_1160 ?_
  refine lv_topi (fun v_2 ev_2 => ?_)
  obtain rfl : v_2 = xs 1 := ev_2
  have hPc := hP.sub (ws' := [(xh0, .inr (10, [.ref xq1, .ref xq4, .ref xq6, .ref xq9, .ref xq14, .ref xq19, .ref xq20, .ref xq25, .ref xq30, .ref xq33, .ref xq39, .ref xq45, .ref xq47, .int 0, .int (-1), .int 0, .int 0])), (xq14, .inr (1, [.ref xq16, .ref xq17, .ref xq18, .int 0, .int 0]))]) [0, 1] rfl
  have hDc := hD.sub (ws' := [(xh0, .inr (10, [.ref xq1, .ref xq4, .ref xq6, .ref xq9, .ref xq14, .ref xq19, .ref xq20, .ref xq25, .ref xq30, .ref xq33, .ref xq39, .ref xq45, .ref xq47, .int 0, .int (-1), .int 0, .int 0])), (xq14, .inr (1, [.ref xq16, .ref xq17, .ref xq18, .int 0, .int 0]))]) [0, 1] (by decide) rfl
  have hFc := zfr hS hA
  refine va_calli (va_runV (As := [.int (xs 1)]) (rest := []) ⟨hx, hb, hml, hown, hts⟩ (c_X10_next l dC dI cI cJ xh0 xq1 xq4 xq6 xq9 xq14 xq19 xq20 xq25 xq30 xq33 xq39 xq45 xq47 xq16 xq17 xq18 H.size (xs 1)) (cwV 1 hts (zgV qw865 qw866 qw867 qw98 qw868) rfl rfl rfl hd_X10_next ⟨Nat.le_of_ble_eq_true rfl, Nat.le_of_ble_eq_true rfl⟩) (zPV hPc hK hDc (va_recv hK hP (ci := 10) (q0 := 0) rfl rfl)) rfl rfl hl.1 rfl (lv_room (Nat.le_of_ble_eq_true rfl)) dL_law_1161 ⟨Nat.le_of_ble_eq_true rfl, Nat.le_of_ble_eq_true rfl⟩) hS (fun q _ h => hFc q h) hFc (fun r_3 u t H locs ht hvm hw hB hz1 hk1 hS => ?_)
  have hP := zkeep hP hk1
  have hw : r_3 = (-1) := hw
  subst hw
  refine lv_aload_n hx hb dL_law_1164 rfl (lv_at hl 2 rfl) ?_
  refine lv_aload_n hx hb dL_law_1165 rfl (lv_at hl 0 rfl) ?_
  refine lv_iload hx hb dL_law_1166 (lv_at hl 4 rfl) ?_
  refine lv_iconst (v := 1) hx hb dL_law_1168 (by decide) ?_
  refine lv_iadd hx hb dL_law_1169 ?_
  refine lv_topi (fun v_4 ev_4 => ?_)
  obtain rfl : v_4 = 1 := ev_4.trans (by decide)
  refine va_sld hx hb hX hbl hbA hS (by unfold vp_in; decide) dL_law_1170 ?_
  refine lv_topi (fun v_5 ev_5 => ?_)
  obtain rfl : v_5 = xs 1 := ev_5
  have hPc := hP.sub (ws' := [(mh0, .inr (11, [.int 0, .ref mq1, .int 0, .int 0, .int 0, .int 0, .ref mq2, .ref mq3, .ref mq4, .ref mq5, .ref mq6, .ref mq7, .ref mq8, .int 0, .int 0, .ref mq9, .ref mq10, .ref mq11, .ref mq12, .ref mq13, .int 0, .int 0, .ref mq14, .ref mq15, .ref mq16, .int 0, .int 0, .ref mq17, .ref mq18, .int (-1), .int 0, .ref mq19, .int 0, .long 0, .ref mq20, .int 0, .int 0, .ref mq21, .ref mq22, .ref mq23, .int 0]))]) [2] rfl
  have hDc := hD.sub (ws' := [(mh0, .inr (11, [.int 0, .ref mq1, .int 0, .int 0, .int 0, .int 0, .ref mq2, .ref mq3, .ref mq4, .ref mq5, .ref mq6, .ref mq7, .ref mq8, .int 0, .int 0, .ref mq9, .ref mq10, .ref mq11, .ref mq12, .ref mq13, .int 0, .int 0, .ref mq14, .ref mq15, .ref mq16, .int 0, .int 0, .ref mq17, .ref mq18, .int (-1), .int 0, .ref mq19, .int 0, .long 0, .ref mq20, .int 0, .int 0, .ref mq21, .ref mq22, .ref mq23, .int 0]))]) [2] (by decide) rfl
  have hFc := zfr hS hA
  refine va_calli (va_runV (As := [.int (xs 1)]) (rest := [.int (-1)]) ⟨hx, hb, hml, hown, hts⟩ (c_X11_next l dC dI cI cJ mh0 mq1 mq2 mq3 mq4 mq5 mq6 mq7 mq8 mq9 mq10 mq11 mq12 mq13 mq14 mq15 mq16 mq17 mq18 mq19 mq20 mq21 mq22 mq23 H.size (xs 1)) (cwV 1 hts (zgV qw1613 qw1614 qw1615 qw108 qw1616) rfl rfl rfl hd_X11_next ⟨Nat.le_of_ble_eq_true rfl, Nat.le_of_ble_eq_true rfl⟩) (zPV hPc hK hDc (va_recv hK hP (ci := 11) (q0 := 2) rfl rfl)) rfl rfl hl.1 rfl (lv_room (Nat.le_of_ble_eq_true rfl)) dL_law_1171 ⟨Nat.le_of_ble_eq_true rfl, Nat.le_of_ble_eq_true rfl⟩) hS (fun q _ h => hFc q h) hFc (fun r_6 u t H locs ht hvm hw hB hz1 hk1 hS => ?_)
  have hP := zkeep hP hk1
  have hw : r_6 = (-1) := hw
  subst hw
  refine lv_icmp_eq (tgt := 1825) hx hb dL_law_1174 (by decide) (fun _ => ?_) (fun c => absurd (by decide) c)
  exact law_end C0 hS (lv_sub hl [0, 4] rfl)
set_option maxHeartbeats 4000000 in
set_option maxRecDepth 100000 in
theorem law_case_28 {p : Program} {l : Launch} {e : Env} {s : State} {m : MethodId} {below : List Frame} {meth : Method} {c : Code} {b : Nat} {xs : Nat → Int32} {dC : Nat → ClassId} {dI : Nat → Nat → Nat} {cI cJ : ClassId} {xh0 mh0 o0 xq1 xq4 xq6 xq9 xq14 xq19 xq20 xq25 xq30 xq33 xq39 xq45 xq47 xq16 xq17 xq18 mq1 mq2 mq3 mq4 mq5 mq6 mq7 mq8 mq9 mq10 mq11 mq12 mq13 mq14 mq15 mq16 mq17 mq18 mq19 mq20 mq21 mq22 mq23 g0 : Nat} (hl0 : l.stackTraces = false) (C0 : lw_At p s m meth c b 7 xs) (hK : va_K (dC, dI) vwCl [(cI, .int), (cJ, .long)] s) (hF : zF g0 (fun q : Nat => s.heap.size ≤ q) s) (hG : zG (fun q : Nat => s.heap.size ≤ q) s) {H : Heap} {locs : List Loc} (hP : va_P (dC, dI) vwCl [(xh0, .inr (10, [.ref xq1, .ref xq4, .ref xq6, .ref xq9, .ref xq14, .ref xq19, .ref xq20, .ref xq25, .ref xq30, .ref xq33, .ref xq39, .ref xq45, .ref xq47, .int 0, .int (-1), .int 0, .int 0])), (xq14, .inr (1, [.ref xq16, .ref xq17, .ref xq18, .int 0, .int 0])), (mh0, .inr (11, [.int 0, .ref mq1, .int 0, .int 0, .int 0, .int 0, .ref mq2, .ref mq3, .ref mq4, .ref mq5, .ref mq6, .ref mq7, .ref mq8, .int 0, .int 0, .ref mq9, .ref mq10, .ref mq11, .ref mq12, .ref mq13, .int 0, .int 0, .ref mq14, .ref mq15, .ref mq16, .int 0, .int 0, .ref mq17, .ref mq18, .int (-1), .int 0, .ref mq19, .int 0, .long 0, .ref mq20, .int 0, .int 0, .ref mq21, .ref mq22, .ref mq23, .int 0]))] H) (hD : va_D (fun q : Nat => s.heap.size ≤ q) [(xh0, .inr (10, [.ref xq1, .ref xq4, .ref xq6, .ref xq9, .ref xq14, .ref xq19, .ref xq20, .ref xq25, .ref xq30, .ref xq33, .ref xq39, .ref xq45, .ref xq47, .int 0, .int (-1), .int 0, .int 0])), (xq14, .inr (1, [.ref xq16, .ref xq17, .ref xq18, .int 0, .int 0])), (mh0, .inr (11, [.int 0, .ref mq1, .int 0, .int 0, .int 0, .int 0, .ref mq2, .ref mq3, .ref mq4, .ref mq5, .ref mq6, .ref mq7, .ref mq8, .int 0, .int 0, .ref mq9, .ref mq10, .ref mq11, .ref mq12, .ref mq13, .int 0, .int 0, .ref mq14, .ref mq15, .ref mq16, .int 0, .int 0, .ref mq17, .ref mq18, .int (-1), .int 0, .ref mq19, .int 0, .long 0, .ref mq20, .int 0, .int 0, .ref mq21, .ref mq22, .ref mq23, .int 0]))]) (hS : va_S (fun q : Nat => s.heap.size ≤ q) s.heap H locs) {ls : Array Slot} (hl : lv_has ls 7 [(0, .ref b), (1, .ref xh0), (2, .ref mh0), (3, .ref o0), (4, .int 0)]) : W p l e room_1 s m #[Value.ref b] below meth c H locs 62 13545 (lw_Z below #[Value.ref b] s) (F0 m 1179 ls []) := by
  obtain ⟨hx, hb, hr, hml, hown, hts0, hX, hbl, hlocks, hgv⟩ := id C0
  have hts : ∀ w ∈ wA, w.before #[Value.ref b] s = true := fun w h => hts0 w (List.mem_filter.mp h).1
  have hown : s.vm.findClass RL = some m.cls := hown
  have hA : ∀ q : Nat, s.heap.size ≤ q → (fun q : Nat => s.heap.size ≤ q) q := fun _ h => h
  have hbA : ¬ (fun q : Nat => s.heap.size ≤ q) b := Nat.not_le.mpr hbl
  refine lv_aload_n hx hb dL_law_1179 rfl (lv_at hl 1 rfl) ?_
  refine lv_aload_n hx hb dL_law_1180 rfl (lv_at hl 0 rfl) ?_
  refine lv_iload hx hb dL_law_1181 (lv_at hl 4 rfl) ?_
  refine lv_iconst (v := 1) hx hb dL_law_1183 (by decide) ?_
  refine lv_iadd hx hb dL_law_1184 ?_
  refine lv_topi (fun v_1 ev_1 => ?_)
  obtain rfl : v_1 = 1 := ev_1.trans (by decide)
  refine va_sld hx hb hX hbl hbA hS (by unfold vp_in; decide) dL_law_1185 ?_
  refine lv_topi (fun v_2 ev_2 => ?_)
  obtain rfl : v_2 = xs 1 := ev_2
  have hPc := hP.sub (ws' := [(xh0, .inr (10, [.ref xq1, .ref xq4, .ref xq6, .ref xq9, .ref xq14, .ref xq19, .ref xq20, .ref xq25, .ref xq30, .ref xq33, .ref xq39, .ref xq45, .ref xq47, .int 0, .int (-1), .int 0, .int 0])), (xq14, .inr (1, [.ref xq16, .ref xq17, .ref xq18, .int 0, .int 0]))]) [0, 1] rfl
  have hDc := hD.sub (ws' := [(xh0, .inr (10, [.ref xq1, .ref xq4, .ref xq6, .ref xq9, .ref xq14, .ref xq19, .ref xq20, .ref xq25, .ref xq30, .ref xq33, .ref xq39, .ref xq45, .ref xq47, .int 0, .int (-1), .int 0, .int 0])), (xq14, .inr (1, [.ref xq16, .ref xq17, .ref xq18, .int 0, .int 0]))]) [0, 1] (by decide) rfl
  have hFc := zfr hS hA
  refine va_calli (va_runV (As := [.int (xs 1)]) (rest := []) ⟨hx, hb, hml, hown, hts⟩ (c_X10_apart l dC dI cI cJ xh0 xq1 xq4 xq6 xq9 xq14 xq19 xq20 xq25 xq30 xq33 xq39 xq45 xq47 xq16 xq17 xq18 H.size (xs 1)) (cwV 1 hts (zgV qw880 qw881 qw882 qw98 qw883) rfl rfl rfl hd_X10_apart ⟨Nat.le_of_ble_eq_true rfl, Nat.le_of_ble_eq_true rfl⟩) (zPV hPc hK hDc (va_recv hK hP (ci := 10) (q0 := 0) rfl rfl)) rfl rfl hl.1 rfl (lv_room (Nat.le_of_ble_eq_true rfl)) dL_law_1186 ⟨Nat.le_of_ble_eq_true rfl, Nat.le_of_ble_eq_true rfl⟩) hS (fun q _ h => hFc q h) hFc (fun r_3 u t H locs ht hvm hw hB hz1 hk1 hS => ?_)
  have hP := zkeep hP hk1
  have hw : r_3 = (-1) := hw
  subst hw
  refine lv_aload_n hx hb dL_law_1189 rfl (lv_at hl 2 rfl) ?_
  refine lv_aload_n hx hb dL_law_1190 rfl (lv_at hl 0 rfl) ?_
  refine lv_iload hx hb dL_law_1191 (lv_at hl 4 rfl) ?_
  refine lv_iconst (v := 1) hx hb dL_law_1193 (by decide) ?_
  refine lv_iadd hx hb dL_law_1194 ?_
  refine lv_topi (fun v_4 ev_4 => ?_)
  obtain rfl : v_4 = 1 := ev_4.trans (by decide)
  refine va_sld hx hb hX hbl hbA hS (by unfold vp_in; decide) dL_law_1195 ?_
  refine lv_topi (fun v_5 ev_5 => ?_)
  obtain rfl : v_5 = xs 1 := ev_5
  have hPc := hP.sub (ws' := [(mh0, .inr (11, [.int 0, .ref mq1, .int 0, .int 0, .int 0, .int 0, .ref mq2, .ref mq3, .ref mq4, .ref mq5, .ref mq6, .ref mq7, .ref mq8, .int 0, .int 0, .ref mq9, .ref mq10, .ref mq11, .ref mq12, .ref mq13, .int 0, .int 0, .ref mq14, .ref mq15, .ref mq16, .int 0, .int 0, .ref mq17, .ref mq18, .int (-1), .int 0, .ref mq19, .int 0, .long 0, .ref mq20, .int 0, .int 0, .ref mq21, .ref mq22, .ref mq23, .int 0]))]) [2] rfl
  have hDc := hD.sub (ws' := [(mh0, .inr (11, [.int 0, .ref mq1, .int 0, .int 0, .int 0, .int 0, .ref mq2, .ref mq3, .ref mq4, .ref mq5, .ref mq6, .ref mq7, .ref mq8, .int 0, .int 0, .ref mq9, .ref mq10, .ref mq11, .ref mq12, .ref mq13, .int 0, .int 0, .ref mq14, .ref mq15, .ref mq16, .int 0, .int 0, .ref mq17, .ref mq18, .int (-1), .int 0, .ref mq19, .int 0, .long 0, .ref mq20, .int 0, .int 0, .ref mq21, .ref mq22, .ref mq23, .int 0]))]) [2] (by decide) rfl
  have hFc := zfr hS hA
  refine va_calli (va_runV (As := [.int (xs 1)]) (rest := [.int (-1)]) ⟨hx, hb, hml, hown, hts⟩ (c_X11_apart l dC dI cI cJ mh0 mq1 mq2 mq3 mq4 mq5 mq6 mq7 mq8 mq9 mq10 mq11 mq12 mq13 mq14 mq15 mq16 mq17 mq18 mq19 mq20 mq21 mq22 mq23 H.size (xs 1)) (cwV 1 hts (zgV qw1621 qw1622 qw1623 qw108 qw1624) rfl rfl rfl hd_X11_apart ⟨Nat.le_of_ble_eq_true rfl, Nat.le_of_ble_eq_true rfl⟩) (zPV hPc hK hDc (va_recv hK hP (ci := 11) (q0 := 2) rfl rfl)) rfl rfl hl.1 rfl (lv_room (Nat.le_of_ble_eq_true rfl)) dL_law_1196 ⟨Nat.le_of_ble_eq_true rfl, Nat.le_of_ble_eq_true rfl⟩) hS (fun q _ h => hFc q h) hFc (fun r_6 u t H locs ht hvm hw hB hz1 hk1 hS => ?_)
  have hP := zkeep hP hk1
  have hw : r_6 = (-1) := hw
  subst hw
  refine lv_icmp_eq (tgt := 1825) hx hb dL_law_1199 (by decide) (fun _ => ?_) (fun c => absurd (by decide) c)
  exact law_end C0 hS (lv_sub hl [0, 4] rfl)
set_option maxHeartbeats 4000000 in
set_option maxRecDepth 100000 in
theorem law_case_29 {p : Program} {l : Launch} {e : Env} {s : State} {m : MethodId} {below : List Frame} {meth : Method} {c : Code} {b : Nat} {xs : Nat → Int32} {dC : Nat → ClassId} {dI : Nat → Nat → Nat} {cI cJ : ClassId} {xh0 mh0 o0 xq1 xq4 xq6 xq9 xq14 xq19 xq20 xq25 xq30 xq33 xq39 xq45 xq47 xq16 xq17 xq18 mq1 mq2 mq3 mq4 mq5 mq6 mq7 mq8 mq9 mq10 mq11 mq12 mq13 mq14 mq15 mq16 mq17 mq18 mq19 mq20 mq21 mq22 mq23 g0 : Nat} (hl0 : l.stackTraces = false) (C0 : lw_At p s m meth c b 7 xs) (hK : va_K (dC, dI) vwCl [(cI, .int), (cJ, .long)] s) (hF : zF g0 (fun q : Nat => s.heap.size ≤ q) s) (hG : zG (fun q : Nat => s.heap.size ≤ q) s) {H : Heap} {locs : List Loc} (hP : va_P (dC, dI) vwCl [(xh0, .inr (10, [.ref xq1, .ref xq4, .ref xq6, .ref xq9, .ref xq14, .ref xq19, .ref xq20, .ref xq25, .ref xq30, .ref xq33, .ref xq39, .ref xq45, .ref xq47, .int 0, .int (-1), .int 0, .int 0])), (xq14, .inr (1, [.ref xq16, .ref xq17, .ref xq18, .int 0, .int 0])), (mh0, .inr (11, [.int 0, .ref mq1, .int 0, .int 0, .int 0, .int 0, .ref mq2, .ref mq3, .ref mq4, .ref mq5, .ref mq6, .ref mq7, .ref mq8, .int 0, .int 0, .ref mq9, .ref mq10, .ref mq11, .ref mq12, .ref mq13, .int 0, .int 0, .ref mq14, .ref mq15, .ref mq16, .int 0, .int 0, .ref mq17, .ref mq18, .int (-1), .int 0, .ref mq19, .int 0, .long 0, .ref mq20, .int 0, .int 0, .ref mq21, .ref mq22, .ref mq23, .int 0]))] H) (hD : va_D (fun q : Nat => s.heap.size ≤ q) [(xh0, .inr (10, [.ref xq1, .ref xq4, .ref xq6, .ref xq9, .ref xq14, .ref xq19, .ref xq20, .ref xq25, .ref xq30, .ref xq33, .ref xq39, .ref xq45, .ref xq47, .int 0, .int (-1), .int 0, .int 0])), (xq14, .inr (1, [.ref xq16, .ref xq17, .ref xq18, .int 0, .int 0])), (mh0, .inr (11, [.int 0, .ref mq1, .int 0, .int 0, .int 0, .int 0, .ref mq2, .ref mq3, .ref mq4, .ref mq5, .ref mq6, .ref mq7, .ref mq8, .int 0, .int 0, .ref mq9, .ref mq10, .ref mq11, .ref mq12, .ref mq13, .int 0, .int 0, .ref mq14, .ref mq15, .ref mq16, .int 0, .int 0, .ref mq17, .ref mq18, .int (-1), .int 0, .ref mq19, .int 0, .long 0, .ref mq20, .int 0, .int 0, .ref mq21, .ref mq22, .ref mq23, .int 0]))]) (hS : va_S (fun q : Nat => s.heap.size ≤ q) s.heap H locs) {ls : Array Slot} (hl : lv_has ls 7 [(0, .ref b), (1, .ref xh0), (2, .ref mh0), (3, .ref o0), (4, .int 0)]) : W p l e room_1 s m #[Value.ref b] below meth c H locs 62 13545 (lw_Z below #[Value.ref b] s) (F0 m 1204 ls []) := by
  obtain ⟨hx, hb, hr, hml, hown, hts0, hX, hbl, hlocks, hgv⟩ := id C0
  have hts : ∀ w ∈ wA, w.before #[Value.ref b] s = true := fun w h => hts0 w (List.mem_filter.mp h).1
  have hown : s.vm.findClass RL = some m.cls := hown
  have hA : ∀ q : Nat, s.heap.size ≤ q → (fun q : Nat => s.heap.size ≤ q) q := fun _ h => h
  have hbA : ¬ (fun q : Nat => s.heap.size ≤ q) b := Nat.not_le.mpr hbl
  refine lv_aload_n hx hb dL_law_1204 rfl (lv_at hl 1 rfl) ?_
  refine lv_aload_n hx hb dL_law_1205 rfl (lv_at hl 0 rfl) ?_
  refine lv_iload hx hb dL_law_1206 (lv_at hl 4 rfl) ?_
  refine lv_iconst (v := 1) hx hb dL_law_1208 (by decide) ?_
  refine lv_iadd hx hb dL_law_1209 ?_
  refine lv_topi (fun v_1 ev_1 => ?_)
  obtain rfl : v_1 = 1 := ev_1.trans (by decide)
  refine va_sld hx hb hX hbl hbA hS (by unfold vp_in; decide) dL_law_1210 ?_
  refine lv_topi (fun v_2 ev_2 => ?_)
  obtain rfl : v_2 = xs 1 := ev_2
  refine lv_aload_n hx hb dL_law_1211 rfl (lv_at hl 0 rfl) ?_
  refine lv_iload hx hb dL_law_1212 (lv_at hl 4 rfl) ?_
  refine lv_iconst (v := 2) hx hb dL_law_1214 (by decide) ?_
  refine lv_iadd hx hb dL_law_1215 ?_
  refine lv_topi (fun v_3 ev_3 => ?_)
  obtain rfl : v_3 = 2 := ev_3.trans (by decide)
  refine va_sld hx hb hX hbl hbA hS (by unfold vp_in; decide) dL_law_1216 ?_
  refine lv_topi (fun v_4 ev_4 => ?_)
  obtain rfl : v_4 = xs 2 := ev_4
  have hPc := hP.sub (ws' := [(xh0, .inr (10, [.ref xq1, .ref xq4, .ref xq6, .ref xq9, .ref xq14, .ref xq19, .ref xq20, .ref xq25, .ref xq30, .ref xq33, .ref xq39, .ref xq45, .ref xq47, .int 0, .int (-1), .int 0, .int 0])), (xq14, .inr (1, [.ref xq16, .ref xq17, .ref xq18, .int 0, .int 0]))]) [0, 1] rfl
  have hDc := hD.sub (ws' := [(xh0, .inr (10, [.ref xq1, .ref xq4, .ref xq6, .ref xq9, .ref xq14, .ref xq19, .ref xq20, .ref xq25, .ref xq30, .ref xq33, .ref xq39, .ref xq45, .ref xq47, .int 0, .int (-1), .int 0, .int 0])), (xq14, .inr (1, [.ref xq16, .ref xq17, .ref xq18, .int 0, .int 0]))]) [0, 1] (by decide) rfl
  have hFc := zfr hS hA
  refine va_calli (va_runV (As := [.int (xs 1), .int (xs 2)]) (rest := []) ⟨hx, hb, hml, hown, hts⟩ (c_X10_worth l dC dI cI cJ xh0 xq1 xq4 xq6 xq9 xq14 xq19 xq20 xq25 xq30 xq33 xq39 xq45 xq47 xq16 xq17 xq18 H.size (xs 1) (xs 2)) (cwV 2 hts (zgV qw902 qw903 qw904 qw98 qw905) rfl rfl rfl hd_X10_worth ⟨Nat.le_of_ble_eq_true rfl, Nat.le_of_ble_eq_true rfl⟩) (zPV hPc hK hDc (va_recv hK hP (ci := 10) (q0 := 0) rfl rfl)) rfl rfl hl.1 rfl (lv_room (Nat.le_of_ble_eq_true rfl)) dL_law_1217 ⟨Nat.le_of_ble_eq_true rfl, Nat.le_of_ble_eq_true rfl⟩) hS (fun q _ h => hFc q h) hFc (fun r_5 u t H locs ht hvm hw hB hz1 hk1 hS => ?_)
  have hP := zkeep hP hk1
  have hw : r_5 = (-1) := hw
  subst hw
  refine lv_aload_n hx hb dL_law_1220 rfl (lv_at hl 2 rfl) ?_
  refine lv_aload_n hx hb dL_law_1221 rfl (lv_at hl 0 rfl) ?_
  refine lv_iload hx hb dL_law_1222 (lv_at hl 4 rfl) ?_
  refine lv_iconst (v := 1) hx hb dL_law_1224 (by decide) ?_
  refine lv_iadd hx hb dL_law_1225 ?_
  refine lv_topi (fun v_6 ev_6 => ?_)
  obtain rfl : v_6 = 1 := ev_6.trans (by decide)
  refine va_sld hx hb hX hbl hbA hS (by unfold vp_in; decide) dL_law_1226 ?_
  refine lv_topi (fun v_7 ev_7 => ?_)
  obtain rfl : v_7 = xs 1 := ev_7
  refine lv_aload_n hx hb dL_law_1227 rfl (lv_at hl 0 rfl) ?_
  refine lv_iload hx hb dL_law_1228 (lv_at hl 4 rfl) ?_
  refine lv_iconst (v := 2) hx hb dL_law_1230 (by decide) ?_
  refine lv_iadd hx hb dL_law_1231 ?_
  refine lv_topi (fun v_8 ev_8 => ?_)
  obtain rfl : v_8 = 2 := ev_8.trans (by decide)
  refine va_sld hx hb hX hbl hbA hS (by unfold vp_in; decide) dL_law_1232 ?_
  refine lv_topi (fun v_9 ev_9 => ?_)
  obtain rfl : v_9 = xs 2 := ev_9
  have hPc := hP.sub (ws' := [(mh0, .inr (11, [.int 0, .ref mq1, .int 0, .int 0, .int 0, .int 0, .ref mq2, .ref mq3, .ref mq4, .ref mq5, .ref mq6, .ref mq7, .ref mq8, .int 0, .int 0, .ref mq9, .ref mq10, .ref mq11, .ref mq12, .ref mq13, .int 0, .int 0, .ref mq14, .ref mq15, .ref mq16, .int 0, .int 0, .ref mq17, .ref mq18, .int (-1), .int 0, .ref mq19, .int 0, .long 0, .ref mq20, .int 0, .int 0, .ref mq21, .ref mq22, .ref mq23, .int 0]))]) [2] rfl
  have hDc := hD.sub (ws' := [(mh0, .inr (11, [.int 0, .ref mq1, .int 0, .int 0, .int 0, .int 0, .ref mq2, .ref mq3, .ref mq4, .ref mq5, .ref mq6, .ref mq7, .ref mq8, .int 0, .int 0, .ref mq9, .ref mq10, .ref mq11, .ref mq12, .ref mq13, .int 0, .int 0, .ref mq14, .ref mq15, .ref mq16, .int 0, .int 0, .ref mq17, .ref mq18, .int (-1), .int 0, .ref mq19, .int 0, .long 0, .ref mq20, .int 0, .int 0, .ref mq21, .ref mq22, .ref mq23, .int 0]))]) [2] (by decide) rfl
  have hFc := zfr hS hA
  refine va_calli (va_runV (As := [.int (xs 1), .int (xs 2)]) (rest := [.int (-1)]) ⟨hx, hb, hml, hown, hts⟩ (c_X11_worth l dC dI cI cJ mh0 mq1 mq2 mq3 mq4 mq5 mq6 mq7 mq8 mq9 mq10 mq11 mq12 mq13 mq14 mq15 mq16 mq17 mq18 mq19 mq20 mq21 mq22 mq23 H.size (xs 1) (xs 2)) (cwV 2 hts (zgV qw1638 qw1639 qw1640 qw108 qw1641) rfl rfl rfl hd_X11_worth ⟨Nat.le_of_ble_eq_true rfl, Nat.le_of_ble_eq_true rfl⟩) (zPV hPc hK hDc (va_recv hK hP (ci := 11) (q0 := 2) rfl rfl)) rfl rfl hl.1 rfl (lv_room (Nat.le_of_ble_eq_true rfl)) dL_law_1233 ⟨Nat.le_of_ble_eq_true rfl, Nat.le_of_ble_eq_true rfl⟩) hS (fun q _ h => hFc q h) hFc (fun r_10 u t H locs ht hvm hw hB hz1 hk1 hS => ?_)
  have hP := zkeep hP hk1
  have hw : r_10 = (-1) := hw
  subst hw
  refine lv_icmp_eq (tgt := 1825) hx hb dL_law_1236 (by decide) (fun _ => ?_) (fun c => absurd (by decide) c)
  exact law_end C0 hS (lv_sub hl [0, 4] rfl)
set_option maxHeartbeats 4000000 in
set_option maxRecDepth 100000 in
theorem law_case_30 {p : Program} {l : Launch} {e : Env} {s : State} {m : MethodId} {below : List Frame} {meth : Method} {c : Code} {b : Nat} {xs : Nat → Int32} {dC : Nat → ClassId} {dI : Nat → Nat → Nat} {cI cJ : ClassId} {xh0 mh0 o0 xq1 xq4 xq6 xq9 xq14 xq19 xq20 xq25 xq30 xq33 xq39 xq45 xq47 xq16 xq17 xq18 mq1 mq2 mq3 mq4 mq5 mq6 mq7 mq8 mq9 mq10 mq11 mq12 mq13 mq14 mq15 mq16 mq17 mq18 mq19 mq20 mq21 mq22 mq23 g0 : Nat} (hl0 : l.stackTraces = false) (C0 : lw_At p s m meth c b 7 xs) (hK : va_K (dC, dI) vwCl [(cI, .int), (cJ, .long)] s) (hF : zF g0 (fun q : Nat => s.heap.size ≤ q) s) (hG : zG (fun q : Nat => s.heap.size ≤ q) s) {H : Heap} {locs : List Loc} (hP : va_P (dC, dI) vwCl [(xh0, .inr (10, [.ref xq1, .ref xq4, .ref xq6, .ref xq9, .ref xq14, .ref xq19, .ref xq20, .ref xq25, .ref xq30, .ref xq33, .ref xq39, .ref xq45, .ref xq47, .int 0, .int (-1), .int 0, .int 0])), (xq14, .inr (1, [.ref xq16, .ref xq17, .ref xq18, .int 0, .int 0])), (mh0, .inr (11, [.int 0, .ref mq1, .int 0, .int 0, .int 0, .int 0, .ref mq2, .ref mq3, .ref mq4, .ref mq5, .ref mq6, .ref mq7, .ref mq8, .int 0, .int 0, .ref mq9, .ref mq10, .ref mq11, .ref mq12, .ref mq13, .int 0, .int 0, .ref mq14, .ref mq15, .ref mq16, .int 0, .int 0, .ref mq17, .ref mq18, .int (-1), .int 0, .ref mq19, .int 0, .long 0, .ref mq20, .int 0, .int 0, .ref mq21, .ref mq22, .ref mq23, .int 0]))] H) (hD : va_D (fun q : Nat => s.heap.size ≤ q) [(xh0, .inr (10, [.ref xq1, .ref xq4, .ref xq6, .ref xq9, .ref xq14, .ref xq19, .ref xq20, .ref xq25, .ref xq30, .ref xq33, .ref xq39, .ref xq45, .ref xq47, .int 0, .int (-1), .int 0, .int 0])), (xq14, .inr (1, [.ref xq16, .ref xq17, .ref xq18, .int 0, .int 0])), (mh0, .inr (11, [.int 0, .ref mq1, .int 0, .int 0, .int 0, .int 0, .ref mq2, .ref mq3, .ref mq4, .ref mq5, .ref mq6, .ref mq7, .ref mq8, .int 0, .int 0, .ref mq9, .ref mq10, .ref mq11, .ref mq12, .ref mq13, .int 0, .int 0, .ref mq14, .ref mq15, .ref mq16, .int 0, .int 0, .ref mq17, .ref mq18, .int (-1), .int 0, .ref mq19, .int 0, .long 0, .ref mq20, .int 0, .int 0, .ref mq21, .ref mq22, .ref mq23, .int 0]))]) (hS : va_S (fun q : Nat => s.heap.size ≤ q) s.heap H locs) {ls : Array Slot} (hl : lv_has ls 7 [(0, .ref b), (1, .ref xh0), (2, .ref mh0), (3, .ref o0), (4, .int 0)]) : W p l e room_1 s m #[Value.ref b] below meth c H locs 62 13545 (lw_Z below #[Value.ref b] s) (F0 m 1241 ls []) := by
  obtain ⟨hx, hb, hr, hml, hown, hts0, hX, hbl, hlocks, hgv⟩ := id C0
  have hts : ∀ w ∈ wA, w.before #[Value.ref b] s = true := fun w h => hts0 w (List.mem_filter.mp h).1
  have hown : s.vm.findClass RL = some m.cls := hown
  have hA : ∀ q : Nat, s.heap.size ≤ q → (fun q : Nat => s.heap.size ≤ q) q := fun _ h => h
  have hbA : ¬ (fun q : Nat => s.heap.size ≤ q) b := Nat.not_le.mpr hbl
  refine lv_aload_n hx hb dL_law_1241 rfl (lv_at hl 1 rfl) ?_
  refine lv_aload_n hx hb dL_law_1242 rfl (lv_at hl 0 rfl) ?_
  refine lv_iload hx hb dL_law_1243 (lv_at hl 4 rfl) ?_
  refine lv_iconst (v := 1) hx hb dL_law_1245 (by decide) ?_
  refine lv_iadd hx hb dL_law_1246 ?_
  refine lv_topi (fun v_1 ev_1 => ?_)
  obtain rfl : v_1 = 1 := ev_1.trans (by decide)
  refine va_sld hx hb hX hbl hbA hS (by unfold vp_in; decide) dL_law_1247 ?_
  refine lv_topi (fun v_2 ev_2 => ?_)
  obtain rfl : v_2 = xs 1 := ev_2
  have hPc := hP.sub (ws' := [(xh0, .inr (10, [.ref xq1, .ref xq4, .ref xq6, .ref xq9, .ref xq14, .ref xq19, .ref xq20, .ref xq25, .ref xq30, .ref xq33, .ref xq39, .ref xq45, .ref xq47, .int 0, .int (-1), .int 0, .int 0])), (xq14, .inr (1, [.ref xq16, .ref xq17, .ref xq18, .int 0, .int 0]))]) [0, 1] rfl
  have hDc := hD.sub (ws' := [(xh0, .inr (10, [.ref xq1, .ref xq4, .ref xq6, .ref xq9, .ref xq14, .ref xq19, .ref xq20, .ref xq25, .ref xq30, .ref xq33, .ref xq39, .ref xq45, .ref xq47, .int 0, .int (-1), .int 0, .int 0])), (xq14, .inr (1, [.ref xq16, .ref xq17, .ref xq18, .int 0, .int 0]))]) [0, 1] (by decide) rfl
  have hFc := zfr hS hA
  refine va_calli (va_runV (As := [.int (xs 1)]) (rest := []) ⟨hx, hb, hml, hown, hts⟩ (c_X10_chooses l dC dI cI cJ xh0 xq1 xq4 xq6 xq9 xq14 xq19 xq20 xq25 xq30 xq33 xq39 xq45 xq47 xq16 xq17 xq18 H.size (xs 1)) (cwV 1 hts (zgV qw913 qw914 qw915 qw98 qw916) rfl rfl rfl hd_X10_chooses ⟨Nat.le_of_ble_eq_true rfl, Nat.le_of_ble_eq_true rfl⟩) (zPV hPc hK hDc (va_recv hK hP (ci := 10) (q0 := 0) rfl rfl)) rfl rfl hl.1 rfl (lv_room (Nat.le_of_ble_eq_true rfl)) dL_law_1248 ⟨Nat.le_of_ble_eq_true rfl, Nat.le_of_ble_eq_true rfl⟩) hS (fun q _ h => hFc q h) hFc (fun r_3 u t H locs ht hvm hw hB hz1 hk1 hS => ?_)
  have hP := zkeep hP hk1
  have hw : r_3 = (-1) := hw
  subst hw
  refine lv_aload_n hx hb dL_law_1251 rfl (lv_at hl 2 rfl) ?_
  refine lv_aload_n hx hb dL_law_1252 rfl (lv_at hl 0 rfl) ?_
  refine lv_iload hx hb dL_law_1253 (lv_at hl 4 rfl) ?_
  refine lv_iconst (v := 1) hx hb dL_law_1255 (by decide) ?_
  refine lv_iadd hx hb dL_law_1256 ?_
  refine lv_topi (fun v_4 ev_4 => ?_)
  obtain rfl : v_4 = 1 := ev_4.trans (by decide)
  refine va_sld hx hb hX hbl hbA hS (by unfold vp_in; decide) dL_law_1257 ?_
  refine lv_topi (fun v_5 ev_5 => ?_)
  obtain rfl : v_5 = xs 1 := ev_5
  have hPc := hP.sub (ws' := [(mh0, .inr (11, [.int 0, .ref mq1, .int 0, .int 0, .int 0, .int 0, .ref mq2, .ref mq3, .ref mq4, .ref mq5, .ref mq6, .ref mq7, .ref mq8, .int 0, .int 0, .ref mq9, .ref mq10, .ref mq11, .ref mq12, .ref mq13, .int 0, .int 0, .ref mq14, .ref mq15, .ref mq16, .int 0, .int 0, .ref mq17, .ref mq18, .int (-1), .int 0, .ref mq19, .int 0, .long 0, .ref mq20, .int 0, .int 0, .ref mq21, .ref mq22, .ref mq23, .int 0]))]) [2] rfl
  have hDc := hD.sub (ws' := [(mh0, .inr (11, [.int 0, .ref mq1, .int 0, .int 0, .int 0, .int 0, .ref mq2, .ref mq3, .ref mq4, .ref mq5, .ref mq6, .ref mq7, .ref mq8, .int 0, .int 0, .ref mq9, .ref mq10, .ref mq11, .ref mq12, .ref mq13, .int 0, .int 0, .ref mq14, .ref mq15, .ref mq16, .int 0, .int 0, .ref mq17, .ref mq18, .int (-1), .int 0, .ref mq19, .int 0, .long 0, .ref mq20, .int 0, .int 0, .ref mq21, .ref mq22, .ref mq23, .int 0]))]) [2] (by decide) rfl
  have hFc := zfr hS hA
  refine va_calli (va_runV (As := [.int (xs 1)]) (rest := [.int (-1)]) ⟨hx, hb, hml, hown, hts⟩ (c_X11_chooses l dC dI cI cJ mh0 mq1 mq2 mq3 mq4 mq5 mq6 mq7 mq8 mq9 mq10 mq11 mq12 mq13 mq14 mq15 mq16 mq17 mq18 mq19 mq20 mq21 mq22 mq23 H.size (xs 1)) (cwV 1 hts (zgV qw1646 qw1647 qw1648 qw108 qw1649) rfl rfl rfl hd_X11_chooses ⟨Nat.le_of_ble_eq_true rfl, Nat.le_of_ble_eq_true rfl⟩) (zPV hPc hK hDc (va_recv hK hP (ci := 11) (q0 := 2) rfl rfl)) rfl rfl hl.1 rfl (lv_room (Nat.le_of_ble_eq_true rfl)) dL_law_1258 ⟨Nat.le_of_ble_eq_true rfl, Nat.le_of_ble_eq_true rfl⟩) hS (fun q _ h => hFc q h) hFc (fun r_6 u t H locs ht hvm hw hB hz1 hk1 hS => ?_)
  have hP := zkeep hP hk1
  have hw : r_6 = (-1) := hw
  subst hw
  refine lv_icmp_eq (tgt := 1825) hx hb dL_law_1261 (by decide) (fun _ => ?_) (fun c => absurd (by decide) c)
  exact law_end C0 hS (lv_sub hl [0, 4] rfl)
set_option maxHeartbeats 4000000 in
set_option maxRecDepth 100000 in
theorem law_case_31 {p : Program} {l : Launch} {e : Env} {s : State} {m : MethodId} {below : List Frame} {meth : Method} {c : Code} {b : Nat} {xs : Nat → Int32} {dC : Nat → ClassId} {dI : Nat → Nat → Nat} {cI cJ : ClassId} {xh0 mh0 o0 xq1 xq4 xq6 xq9 xq14 xq19 xq20 xq25 xq30 xq33 xq39 xq45 xq47 xq16 xq17 xq18 mq1 mq2 mq3 mq4 mq5 mq6 mq7 mq8 mq9 mq10 mq11 mq12 mq13 mq14 mq15 mq16 mq17 mq18 mq19 mq20 mq21 mq22 mq23 g0 : Nat} (hl0 : l.stackTraces = false) (C0 : lw_At p s m meth c b 7 xs) (hK : va_K (dC, dI) vwCl [(cI, .int), (cJ, .long)] s) (hF : zF g0 (fun q : Nat => s.heap.size ≤ q) s) (hG : zG (fun q : Nat => s.heap.size ≤ q) s) {H : Heap} {locs : List Loc} (hP : va_P (dC, dI) vwCl [(xh0, .inr (10, [.ref xq1, .ref xq4, .ref xq6, .ref xq9, .ref xq14, .ref xq19, .ref xq20, .ref xq25, .ref xq30, .ref xq33, .ref xq39, .ref xq45, .ref xq47, .int 0, .int (-1), .int 0, .int 0])), (xq14, .inr (1, [.ref xq16, .ref xq17, .ref xq18, .int 0, .int 0])), (mh0, .inr (11, [.int 0, .ref mq1, .int 0, .int 0, .int 0, .int 0, .ref mq2, .ref mq3, .ref mq4, .ref mq5, .ref mq6, .ref mq7, .ref mq8, .int 0, .int 0, .ref mq9, .ref mq10, .ref mq11, .ref mq12, .ref mq13, .int 0, .int 0, .ref mq14, .ref mq15, .ref mq16, .int 0, .int 0, .ref mq17, .ref mq18, .int (-1), .int 0, .ref mq19, .int 0, .long 0, .ref mq20, .int 0, .int 0, .ref mq21, .ref mq22, .ref mq23, .int 0]))] H) (hD : va_D (fun q : Nat => s.heap.size ≤ q) [(xh0, .inr (10, [.ref xq1, .ref xq4, .ref xq6, .ref xq9, .ref xq14, .ref xq19, .ref xq20, .ref xq25, .ref xq30, .ref xq33, .ref xq39, .ref xq45, .ref xq47, .int 0, .int (-1), .int 0, .int 0])), (xq14, .inr (1, [.ref xq16, .ref xq17, .ref xq18, .int 0, .int 0])), (mh0, .inr (11, [.int 0, .ref mq1, .int 0, .int 0, .int 0, .int 0, .ref mq2, .ref mq3, .ref mq4, .ref mq5, .ref mq6, .ref mq7, .ref mq8, .int 0, .int 0, .ref mq9, .ref mq10, .ref mq11, .ref mq12, .ref mq13, .int 0, .int 0, .ref mq14, .ref mq15, .ref mq16, .int 0, .int 0, .ref mq17, .ref mq18, .int (-1), .int 0, .ref mq19, .int 0, .long 0, .ref mq20, .int 0, .int 0, .ref mq21, .ref mq22, .ref mq23, .int 0]))]) (hS : va_S (fun q : Nat => s.heap.size ≤ q) s.heap H locs) {ls : Array Slot} (hl : lv_has ls 7 [(0, .ref b), (1, .ref xh0), (2, .ref mh0), (3, .ref o0), (4, .int 0)]) : W p l e room_1 s m #[Value.ref b] below meth c H locs 62 13545 (lw_Z below #[Value.ref b] s) (F0 m 1266 ls []) := by
  obtain ⟨hx, hb, hr, hml, hown, hts0, hX, hbl, hlocks, hgv⟩ := id C0
  have hts : ∀ w ∈ wA, w.before #[Value.ref b] s = true := fun w h => hts0 w (List.mem_filter.mp h).1
  have hown : s.vm.findClass RL = some m.cls := hown
  have hA : ∀ q : Nat, s.heap.size ≤ q → (fun q : Nat => s.heap.size ≤ q) q := fun _ h => h
  have hbA : ¬ (fun q : Nat => s.heap.size ≤ q) b := Nat.not_le.mpr hbl
  refine lv_aload_n hx hb dL_law_1266 rfl (lv_at hl 1 rfl) ?_
  refine lv_aload_n hx hb dL_law_1267 rfl (lv_at hl 0 rfl) ?_
  refine lv_iload hx hb dL_law_1268 (lv_at hl 4 rfl) ?_
  refine lv_iconst (v := 1) hx hb dL_law_1270 (by decide) ?_
  refine lv_iadd hx hb dL_law_1271 ?_
  refine lv_topi (fun v_1 ev_1 => ?_)
  obtain rfl : v_1 = 1 := ev_1.trans (by decide)
  refine va_sld hx hb hX hbl hbA hS (by unfold vp_in; decide) dL_law_1272 ?_
  refine lv_topi (fun v_2 ev_2 => ?_)
  obtain rfl : v_2 = xs 1 := ev_2
  refine lv_aload_n hx hb dL_law_1273 rfl (lv_at hl 0 rfl) ?_
  refine lv_iload hx hb dL_law_1274 (lv_at hl 4 rfl) ?_
  refine lv_iconst (v := 2) hx hb dL_law_1276 (by decide) ?_
  refine lv_iadd hx hb dL_law_1277 ?_
  refine lv_topi (fun v_3 ev_3 => ?_)
  obtain rfl : v_3 = 2 := ev_3.trans (by decide)
  refine va_sld hx hb hX hbl hbA hS (by unfold vp_in; decide) dL_law_1278 ?_
  refine lv_topi (fun v_4 ev_4 => ?_)
  obtain rfl : v_4 = xs 2 := ev_4
  refine lv_aload_n hx hb dL_law_1279 rfl (lv_at hl 0 rfl) ?_
  refine lv_iload hx hb dL_law_1280 (lv_at hl 4 rfl) ?_
  refine lv_iconst (v := 3) hx hb dL_law_1282 (by decide) ?_
  refine lv_iadd hx hb dL_law_1283 ?_
  refine lv_topi (fun v_5 ev_5 => ?_)
  obtain rfl : v_5 = 3 := ev_5.trans (by decide)
  refine va_sld hx hb hX hbl hbA hS (by unfold vp_in; decide) dL_law_1284 ?_
  refine lv_topi (fun v_6 ev_6 => ?_)
  obtain rfl : v_6 = xs 3 := ev_6
  refine lv_aload_n hx hb dL_law_1285 rfl (lv_at hl 0 rfl) ?_
  refine lv_iload hx hb dL_law_1286 (lv_at hl 4 rfl) ?_
  refine lv_iconst (v := 4) hx hb dL_law_1288 (by decide) ?_
  refine lv_iadd hx hb dL_law_1289 ?_
  refine lv_topi (fun v_7 ev_7 => ?_)
  obtain rfl : v_7 = 4 := ev_7.trans (by decide)
  refine va_sld hx hb hX hbl hbA hS (by unfold vp_in; decide) dL_law_1290 ?_
  refine lv_topi (fun v_8 ev_8 => ?_)
  obtain rfl : v_8 = xs 4 := ev_8
  refine lv_aload_n hx hb dL_law_1291 rfl (lv_at hl 0 rfl) ?_
  refine lv_iload hx hb dL_law_1292 (lv_at hl 4 rfl) ?_
  refine lv_iconst (v := 5) hx hb dL_law_1294 (by decide) ?_
  refine lv_iadd hx hb dL_law_1295 ?_
  refine lv_topi (fun v_9 ev_9 => ?_)
  obtain rfl : v_9 = 5 := ev_9.trans (by decide)
  refine va_sld hx hb hX hbl hbA hS (by unfold vp_in; decide) dL_law_1296 ?_
  refine lv_topi (fun v_10 ev_10 => ?_)
  obtain rfl : v_10 = xs 5 := ev_10
  refine lv_aload_n hx hb dL_law_1297 rfl (lv_at hl 0 rfl) ?_
  refine lv_iload hx hb dL_law_1298 (lv_at hl 4 rfl) ?_
  refine lv_bipush (v := 6) hx hb dL_law_1300 (by decide) ?_
  refine lv_iadd hx hb dL_law_1302 ?_
  refine lv_topi (fun v_11 ev_11 => ?_)
  obtain rfl : v_11 = 6 := ev_11.trans (by decide)
  refine va_sld hx hb hX hbl hbA hS (by unfold vp_in; decide) dL_law_1303 ?_
  refine lv_topi (fun v_12 ev_12 => ?_)
  obtain rfl : v_12 = xs 6 := ev_12
  have hPc := hP.sub (ws' := [(xh0, .inr (10, [.ref xq1, .ref xq4, .ref xq6, .ref xq9, .ref xq14, .ref xq19, .ref xq20, .ref xq25, .ref xq30, .ref xq33, .ref xq39, .ref xq45, .ref xq47, .int 0, .int (-1), .int 0, .int 0])), (xq14, .inr (1, [.ref xq16, .ref xq17, .ref xq18, .int 0, .int 0]))]) [0, 1] rfl
  have hDc := hD.sub (ws' := [(xh0, .inr (10, [.ref xq1, .ref xq4, .ref xq6, .ref xq9, .ref xq14, .ref xq19, .ref xq20, .ref xq25, .ref xq30, .ref xq33, .ref xq39, .ref xq45, .ref xq47, .int 0, .int (-1), .int 0, .int 0])), (xq14, .inr (1, [.ref xq16, .ref xq17, .ref xq18, .int 0, .int 0]))]) [0, 1] (by decide) rfl
  have hFc := zfr hS hA
  refine va_calli (va_runV (As := [.int (xs 1), .int (xs 2), .int (xs 3), .int (xs 4), .int (xs 5), .int (xs 6)]) (rest := []) ⟨hx, hb, hml, hown, hts⟩ (c_X10_game l dC dI cI cJ xh0 xq1 xq4 xq6 xq9 xq14 xq19 xq20 xq25 xq30 xq33 xq39 xq45 xq47 xq16 xq17 xq18 H.size (xs 1) (xs 2) (xs 3) (xs 4) (xs 5) (xs 6)) (cwV 6 hts (zgV qw927 qw928 qw929 qw98 qw930) rfl rfl rfl hd_X10_game ⟨Nat.le_of_ble_eq_true rfl, Nat.le_of_ble_eq_true rfl⟩) (zPV hPc hK hDc (va_recv hK hP (ci := 10) (q0 := 0) rfl rfl)) rfl rfl hl.1 rfl (lv_room (Nat.le_of_ble_eq_true rfl)) dL_law_1304 ⟨Nat.le_of_ble_eq_true rfl, Nat.le_of_ble_eq_true rfl⟩) hS (fun q _ h => hFc q h) hFc (fun r_13 u t H locs ht hvm hw hB hz1 hk1 hS => ?_)
  have hP := zkeep hP hk1
  have hw : r_13 = (-1000000) := hw
  subst hw
  refine lv_aload_n hx hb dL_law_1307 rfl (lv_at hl 2 rfl) ?_
  refine lv_aload_n hx hb dL_law_1308 rfl (lv_at hl 0 rfl) ?_
  refine lv_iload hx hb dL_law_1309 (lv_at hl 4 rfl) ?_
  refine lv_iconst (v := 1) hx hb dL_law_1311 (by decide) ?_
  refine lv_iadd hx hb dL_law_1312 ?_
  refine lv_topi (fun v_14 ev_14 => ?_)
  obtain rfl : v_14 = 1 := ev_14.trans (by decide)
  refine va_sld hx hb hX hbl hbA hS (by unfold vp_in; decide) dL_law_1313 ?_
  refine lv_topi (fun v_15 ev_15 => ?_)
  obtain rfl : v_15 = xs 1 := ev_15
  refine lv_aload_n hx hb dL_law_1314 rfl (lv_at hl 0 rfl) ?_
  refine lv_iload hx hb dL_law_1315 (lv_at hl 4 rfl) ?_
  refine lv_iconst (v := 2) hx hb dL_law_1317 (by decide) ?_
  refine lv_iadd hx hb dL_law_1318 ?_
  refine lv_topi (fun v_16 ev_16 => ?_)
  obtain rfl : v_16 = 2 := ev_16.trans (by decide)
  refine va_sld hx hb hX hbl hbA hS (by unfold vp_in; decide) dL_law_1319 ?_
  refine lv_topi (fun v_17 ev_17 => ?_)
  obtain rfl : v_17 = xs 2 := ev_17
  refine lv_aload_n hx hb dL_law_1320 rfl (lv_at hl 0 rfl) ?_
  refine lv_iload hx hb dL_law_1321 (lv_at hl 4 rfl) ?_
  refine lv_iconst (v := 3) hx hb dL_law_1323 (by decide) ?_
  refine lv_iadd hx hb dL_law_1324 ?_
  refine lv_topi (fun v_18 ev_18 => ?_)
  obtain rfl : v_18 = 3 := ev_18.trans (by decide)
  refine va_sld hx hb hX hbl hbA hS (by unfold vp_in; decide) dL_law_1325 ?_
  refine lv_topi (fun v_19 ev_19 => ?_)
  obtain rfl : v_19 = xs 3 := ev_19
  refine lv_aload_n hx hb dL_law_1326 rfl (lv_at hl 0 rfl) ?_
  refine lv_iload hx hb dL_law_1327 (lv_at hl 4 rfl) ?_
  refine lv_iconst (v := 4) hx hb dL_law_1329 (by decide) ?_
  refine lv_iadd hx hb dL_law_1330 ?_
  refine lv_topi (fun v_20 ev_20 => ?_)
  obtain rfl : v_20 = 4 := ev_20.trans (by decide)
  refine va_sld hx hb hX hbl hbA hS (by unfold vp_in; decide) dL_law_1331 ?_
  refine lv_topi (fun v_21 ev_21 => ?_)
  obtain rfl : v_21 = xs 4 := ev_21
  refine lv_aload_n hx hb dL_law_1332 rfl (lv_at hl 0 rfl) ?_
  refine lv_iload hx hb dL_law_1333 (lv_at hl 4 rfl) ?_
  refine lv_iconst (v := 5) hx hb dL_law_1335 (by decide) ?_
  refine lv_iadd hx hb dL_law_1336 ?_
  refine lv_topi (fun v_22 ev_22 => ?_)
  obtain rfl : v_22 = 5 := ev_22.trans (by decide)
  refine va_sld hx hb hX hbl hbA hS (by unfold vp_in; decide) dL_law_1337 ?_
  refine lv_topi (fun v_23 ev_23 => ?_)
  obtain rfl : v_23 = xs 5 := ev_23
  refine lv_aload_n hx hb dL_law_1338 rfl (lv_at hl 0 rfl) ?_
  refine lv_iload hx hb dL_law_1339 (lv_at hl 4 rfl) ?_
  refine lv_bipush (v := 6) hx hb dL_law_1341 (by decide) ?_
  refine lv_iadd hx hb dL_law_1343 ?_
  refine lv_topi (fun v_24 ev_24 => ?_)
  obtain rfl : v_24 = 6 := ev_24.trans (by decide)
  refine va_sld hx hb hX hbl hbA hS (by unfold vp_in; decide) dL_law_1344 ?_
  refine lv_topi (fun v_25 ev_25 => ?_)
  obtain rfl : v_25 = xs 6 := ev_25
  have hPc := hP.sub (ws' := [(mh0, .inr (11, [.int 0, .ref mq1, .int 0, .int 0, .int 0, .int 0, .ref mq2, .ref mq3, .ref mq4, .ref mq5, .ref mq6, .ref mq7, .ref mq8, .int 0, .int 0, .ref mq9, .ref mq10, .ref mq11, .ref mq12, .ref mq13, .int 0, .int 0, .ref mq14, .ref mq15, .ref mq16, .int 0, .int 0, .ref mq17, .ref mq18, .int (-1), .int 0, .ref mq19, .int 0, .long 0, .ref mq20, .int 0, .int 0, .ref mq21, .ref mq22, .ref mq23, .int 0]))]) [2] rfl
  have hDc := hD.sub (ws' := [(mh0, .inr (11, [.int 0, .ref mq1, .int 0, .int 0, .int 0, .int 0, .ref mq2, .ref mq3, .ref mq4, .ref mq5, .ref mq6, .ref mq7, .ref mq8, .int 0, .int 0, .ref mq9, .ref mq10, .ref mq11, .ref mq12, .ref mq13, .int 0, .int 0, .ref mq14, .ref mq15, .ref mq16, .int 0, .int 0, .ref mq17, .ref mq18, .int (-1), .int 0, .ref mq19, .int 0, .long 0, .ref mq20, .int 0, .int 0, .ref mq21, .ref mq22, .ref mq23, .int 0]))]) [2] (by decide) rfl
  have hFc := zfr hS hA
  refine va_calli (va_runV (As := [.int (xs 1), .int (xs 2), .int (xs 3), .int (xs 4), .int (xs 5), .int (xs 6)]) (rest := [.int (-1000000)]) ⟨hx, hb, hml, hown, hts⟩ (c_X11_game l dC dI cI cJ mh0 mq1 mq2 mq3 mq4 mq5 mq6 mq7 mq8 mq9 mq10 mq11 mq12 mq13 mq14 mq15 mq16 mq17 mq18 mq19 mq20 mq21 mq22 mq23 H.size (xs 1) (xs 2) (xs 3) (xs 4) (xs 5) (xs 6)) (cwV 6 hts (zgV qw1658 qw1659 qw1660 qw108 qw1661) rfl rfl rfl hd_X11_game ⟨Nat.le_of_ble_eq_true rfl, Nat.le_of_ble_eq_true rfl⟩) (zPV hPc hK hDc (va_recv hK hP (ci := 11) (q0 := 2) rfl rfl)) rfl rfl hl.1 rfl (lv_room (Nat.le_of_ble_eq_true rfl)) dL_law_1345 ⟨Nat.le_of_ble_eq_true rfl, Nat.le_of_ble_eq_true rfl⟩) hS (fun q _ h => hFc q h) hFc (fun r_26 u t H locs ht hvm hw hB hz1 hk1 hS => ?_)
  have hP := zkeep hP hk1
  have hw : r_26 = (-1000000) := hw
  subst hw
  refine lv_icmp_eq (tgt := 1825) hx hb dL_law_1348 (by decide) (fun _ => ?_) (fun c => absurd (by decide) c)
  exact law_end C0 hS (lv_sub hl [0, 4] rfl)
