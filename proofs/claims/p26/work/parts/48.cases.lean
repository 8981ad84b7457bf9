set_option maxHeartbeats 4000000 in
set_option maxRecDepth 100000 in
theorem law_case_0 {p : Program} {l : Launch} {e : Env} {s : State} {m : MethodId} {below : List Frame} {meth : Method} {c : Code} {b L : Nat} {xs : Nat → Int32} {dC : Nat → ClassId} {dI : Nat → Nat → Nat} {cI cJ cQ : ClassId} {x0 m0 o0 : Nat} (hl0 : l.stackTraces = false) (C0 : lw_At p s m meth c b L xs) (hK3 : va_K (dC, dI) vwCl [(cI, .int), (cJ, .long), (cQ, .object "NinePortraits$Law")] s) (hV : zV (fun q : Nat => s.heap.size ≤ q) s) (hG : zG (fun q : Nat => s.heap.size ≤ q) s) (hCa : zCa s) (hL : L ≤ 3584) {sg : zSy} {C Rr : va_W} {fo : Nat → Int64} {i : Int32} {H : Heap} {locs : List Loc} {ls : Array Slot} {k n : Nat} (hO : zOkG sg) (hC : zCi cI cJ cQ x0 sg C) (hR : zRi cI m0 sg Rr) (hP : va_P (dC, dI) vwCl (C ++ ((o0, .inl (cJ, 1, .inr (.inl fo))) :: Rr)) H) (hD : va_D (fun q : Nat => s.heap.size ≤ q) (C ++ ((o0, .inl (cJ, 1, .inr (.inl fo))) :: Rr))) (hS : va_S (fun q : Nat => s.heap.size ≤ q) s.heap H locs) (hl : lv_has ls 7 [(0, .ref b), (1, .ref x0), (2, .ref m0), (3, .ref o0), (4, .int i)]) (hi0 : 0 ≤ i.toInt) (hiL : i.toInt + 7 ≤ (L : Int)) (hk : k + 3 ≤ 601024) (hn : n + 300 ≤ 7293034) (J : ∀ (sg : zSy) (C Rr : va_W) (fo : Nat → Int64) (H : Heap) (locs : List Loc) (ls : Array Slot), zOkG sg → zCi cI cJ cQ x0 sg C → zRi cI m0 sg Rr → va_P (dC, dI) vwCl (C ++ ((o0, .inl (cJ, 1, .inr (.inl fo))) :: Rr)) H → va_D (fun q : Nat => s.heap.size ≤ q) (C ++ ((o0, .inl (cJ, 1, .inr (.inl fo))) :: Rr)) → va_S (fun q : Nat => s.heap.size ≤ q) s.heap H locs → lv_has ls 7 [(0, .ref b), (1, .ref x0), (2, .ref m0), (3, .ref o0), (4, .int i)] → W p l e room_1 s m #[Value.ref b] below meth c H locs (k + 3) (n + 300) (lw_Z below #[Value.ref b] s) (F0 m 1797 ls [])) : W p l e room_1 s m #[Value.ref b] below meth c H locs k n (lw_Z below #[Value.ref b] s) (F0 m 248 ls []) := by
  obtain ⟨hx, hb, hr, hml, hown, hts0, hX, hbl, hlocks, hgv⟩ := id C0
  have hts : ∀ w ∈ wA, w.before #[Value.ref b] s = true := fun w h => hts0 w (List.mem_filter.mp h).1
  have hown : s.vm.findClass RL = some m.cls := hown
  have hcf : CallFix p m c code 7 s #[Value.ref b] wA RL := ⟨hx, hb, hml, hown, hts⟩
  have hbA : ¬ (fun q : Nat => s.heap.size ≤ q) b := Nat.not_le.mpr hbl
  refine lv_aload_n hx hb dL_law_248 rfl (lv_at hl 1 rfl) ?_
  refine lv_aload_n hx hb dL_law_249 rfl (lv_at hl 0 rfl) ?_
  refine lv_iload hx hb dL_law_250 (lv_at hl 4 rfl) ?_
  refine lv_iconst (v := 1) hx hb dL_law_252 (by decide) ?_
  refine lv_iadd hx hb dL_law_253 ?_
  refine lv_topi (fun v253 e253 => ?_)
  have i253 : v253.toInt = i.toInt + 1 := zadd e253 rfl (by decide) (by omega) (by omega)
  refine va_sld hx hb hX hbl hbA hS (vp_in_iff.mpr ⟨by omega, by omega⟩) dL_law_254 ?_
  refine lv_topi (fun v254 e254 => ?_)
  refine lv_aload_n hx hb dL_law_255 rfl (lv_at hl 0 rfl) ?_
  refine lv_iload hx hb dL_law_256 (lv_at hl 4 rfl) ?_
  refine lv_iconst (v := 2) hx hb dL_law_258 (by decide) ?_
  refine lv_iadd hx hb dL_law_259 ?_
  refine lv_topi (fun v259 e259 => ?_)
  have i259 : v259.toInt = i.toInt + 2 := zadd e259 rfl (by decide) (by omega) (by omega)
  refine va_sld hx hb hX hbl hbA hS (vp_in_iff.mpr ⟨by omega, by omega⟩) dL_law_260 ?_
  refine lv_topi (fun v260 e260 => ?_)
  refine lv_aload_n hx hb dL_law_261 rfl (lv_at hl 0 rfl) ?_
  refine lv_iload hx hb dL_law_262 (lv_at hl 4 rfl) ?_
  refine lv_iconst (v := 3) hx hb dL_law_264 (by decide) ?_
  refine lv_iadd hx hb dL_law_265 ?_
  refine lv_topi (fun v265 e265 => ?_)
  have i265 : v265.toInt = i.toInt + 3 := zadd e265 rfl (by decide) (by omega) (by omega)
  refine va_sld hx hb hX hbl hbA hS (vp_in_iff.mpr ⟨by omega, by omega⟩) dL_law_266 ?_
  refine lv_topi (fun v266 e266 => ?_)
  refine lv_aload_n hx hb dL_law_267 rfl (lv_at hl 0 rfl) ?_
  refine lv_iload hx hb dL_law_268 (lv_at hl 4 rfl) ?_
  refine lv_iconst (v := 4) hx hb dL_law_270 (by decide) ?_
  refine lv_iadd hx hb dL_law_271 ?_
  refine lv_topi (fun v271 e271 => ?_)
  have i271 : v271.toInt = i.toInt + 4 := zadd e271 rfl (by decide) (by omega) (by omega)
  refine va_sld hx hb hX hbl hbA hS (vp_in_iff.mpr ⟨by omega, by omega⟩) dL_law_272 ?_
  refine lv_topi (fun v272 e272 => ?_)
  refine lv_aload_n hx hb dL_law_273 rfl (lv_at hl 0 rfl) ?_
  refine lv_iload hx hb dL_law_274 (lv_at hl 4 rfl) ?_
  refine lv_iconst (v := 5) hx hb dL_law_276 (by decide) ?_
  refine lv_iadd hx hb dL_law_277 ?_
  refine lv_topi (fun v277 e277 => ?_)
  have i277 : v277.toInt = i.toInt + 5 := zadd e277 rfl (by decide) (by omega) (by omega)
  refine va_sld hx hb hX hbl hbA hS (vp_in_iff.mpr ⟨by omega, by omega⟩) dL_law_278 ?_
  refine lv_topi (fun v278 e278 => ?_)
  refine k_X10_feed (rest := []) hcf hK3 hV hC hO hP hD hS (fun _ h => h) hl.1 (Nat.le_of_ble_eq_true rfl) (by show k + 0 ≤ 601024; omega) (by show n + 0 ≤ 7293034; omega) dL_law_279 (fun v279 C H locs hv1 hC hP hD hS => ?_)
  refine lv_pop hx hb dL_law_282 rfl ?_
  refine lv_aload_n hx hb dL_law_283 rfl (lv_at hl 2 rfl) ?_
  refine lv_aload_n hx hb dL_law_284 rfl (lv_at hl 0 rfl) ?_
  refine lv_iload hx hb dL_law_285 (lv_at hl 4 rfl) ?_
  refine lv_iconst (v := 1) hx hb dL_law_287 (by decide) ?_
  refine lv_iadd hx hb dL_law_288 ?_
  refine lv_topi (fun v288 e288 => ?_)
  have i288 : v288.toInt = i.toInt + 1 := zadd e288 rfl (by decide) (by omega) (by omega)
  refine va_sld hx hb hX hbl hbA hS (vp_in_iff.mpr ⟨by omega, by omega⟩) dL_law_289 ?_
  refine lv_topi (fun v289 e289 => ?_)
  refine lv_aload_n hx hb dL_law_290 rfl (lv_at hl 0 rfl) ?_
  refine lv_iload hx hb dL_law_291 (lv_at hl 4 rfl) ?_
  refine lv_iconst (v := 2) hx hb dL_law_293 (by decide) ?_
  refine lv_iadd hx hb dL_law_294 ?_
  refine lv_topi (fun v294 e294 => ?_)
  have i294 : v294.toInt = i.toInt + 2 := zadd e294 rfl (by decide) (by omega) (by omega)
  refine va_sld hx hb hX hbl hbA hS (vp_in_iff.mpr ⟨by omega, by omega⟩) dL_law_295 ?_
  refine lv_topi (fun v295 e295 => ?_)
  refine lv_aload_n hx hb dL_law_296 rfl (lv_at hl 0 rfl) ?_
  refine lv_iload hx hb dL_law_297 (lv_at hl 4 rfl) ?_
  refine lv_iconst (v := 3) hx hb dL_law_299 (by decide) ?_
  refine lv_iadd hx hb dL_law_300 ?_
  refine lv_topi (fun v300 e300 => ?_)
  have i300 : v300.toInt = i.toInt + 3 := zadd e300 rfl (by decide) (by omega) (by omega)
  refine va_sld hx hb hX hbl hbA hS (vp_in_iff.mpr ⟨by omega, by omega⟩) dL_law_301 ?_
  refine lv_topi (fun v301 e301 => ?_)
  refine lv_aload_n hx hb dL_law_302 rfl (lv_at hl 0 rfl) ?_
  refine lv_iload hx hb dL_law_303 (lv_at hl 4 rfl) ?_
  refine lv_iconst (v := 4) hx hb dL_law_305 (by decide) ?_
  refine lv_iadd hx hb dL_law_306 ?_
  refine lv_topi (fun v306 e306 => ?_)
  have i306 : v306.toInt = i.toInt + 4 := zadd e306 rfl (by decide) (by omega) (by omega)
  refine va_sld hx hb hX hbl hbA hS (vp_in_iff.mpr ⟨by omega, by omega⟩) dL_law_307 ?_
  refine lv_topi (fun v307 e307 => ?_)
  refine lv_aload_n hx hb dL_law_308 rfl (lv_at hl 0 rfl) ?_
  refine lv_iload hx hb dL_law_309 (lv_at hl 4 rfl) ?_
  refine lv_iconst (v := 5) hx hb dL_law_311 (by decide) ?_
  refine lv_iadd hx hb dL_law_312 ?_
  refine lv_topi (fun v312 e312 => ?_)
  have i312 : v312.toInt = i.toInt + 5 := zadd e312 rfl (by decide) (by omega) (by omega)
  refine va_sld hx hb hX hbl hbA hS (vp_in_iff.mpr ⟨by omega, by omega⟩) dL_law_313 ?_
  refine lv_topi (fun v313 e313 => ?_)
  have hP := zRotP hP
  have hD := zRotD hD
  refine k_X11_feed (rest := []) hcf hK3 hV hR hO hP hD hS (fun _ h => h) hl.1 (Nat.le_of_ble_eq_true rfl) (by show k + 0 ≤ 601024; omega) (by show n + 0 ≤ 7293034; omega) dL_law_314 (fun v314 Rr H locs hv2 hR hP hD hS => ?_)
  have hP := zRotP' hP
  have hD := zRotD' hD
  have ev0 : v289 = v254 := by rw [e289, e254, e288, e253]
  rw [ev0] at hv2 hR
  have ev1 : v295 = v260 := by rw [e295, e260, e294, e259]
  rw [ev1] at hv2 hR
  have ev2 : v301 = v266 := by rw [e301, e266, e300, e265]
  rw [ev2] at hv2 hR
  have ev3 : v307 = v272 := by rw [e307, e272, e306, e271]
  rw [ev3] at hv2 hR
  have ev4 : v313 = v278 := by rw [e313, e278, e312, e277]
  rw [ev4] at hv2 hR
  have er : v279.toInt = v314.toInt := hv1.trans hv2.symm
  have hO : zOkG (sT_feed sg.1 v254 v260 v266 v272 v278, sg.2.1, sg.2.2.1, sg.2.2.2.1, sg.2.2.2.2.1, sg.2.2.2.2.2.1, sg.2.2.2.2.2.2) := ⟨hO.1, hO.2⟩
  refine lv_pop hx hb dL_law_317 rfl ?_
  refine lv_goto (tgt := 1797) hx hb dL_law_318 (by decide) ?_
  refine W.widen (k := k + 3) (n := n + 300) (by omega) (by omega) ?_
  exact J _ C Rr fo H locs ls hO hC hR hP hD hS (lv_sub hl [0, 1, 2, 3, 4] rfl)
set_option maxHeartbeats 4000000 in
set_option maxRecDepth 100000 in
theorem law_case_1 {p : Program} {l : Launch} {e : Env} {s : State} {m : MethodId} {below : List Frame} {meth : Method} {c : Code} {b L : Nat} {xs : Nat → Int32} {dC : Nat → ClassId} {dI : Nat → Nat → Nat} {cI cJ cQ : ClassId} {x0 m0 o0 : Nat} (hl0 : l.stackTraces = false) (C0 : lw_At p s m meth c b L xs) (hK3 : va_K (dC, dI) vwCl [(cI, .int), (cJ, .long), (cQ, .object "NinePortraits$Law")] s) (hV : zV (fun q : Nat => s.heap.size ≤ q) s) (hG : zG (fun q : Nat => s.heap.size ≤ q) s) (hCa : zCa s) (hL : L ≤ 3584) {sg : zSy} {C Rr : va_W} {fo : Nat → Int64} {i : Int32} {H : Heap} {locs : List Loc} {ls : Array Slot} {k n : Nat} (hO : zOkG sg) (hC : zCi cI cJ cQ x0 sg C) (hR : zRi cI m0 sg Rr) (hP : va_P (dC, dI) vwCl (C ++ ((o0, .inl (cJ, 1, .inr (.inl fo))) :: Rr)) H) (hD : va_D (fun q : Nat => s.heap.size ≤ q) (C ++ ((o0, .inl (cJ, 1, .inr (.inl fo))) :: Rr))) (hS : va_S (fun q : Nat => s.heap.size ≤ q) s.heap H locs) (hl : lv_has ls 7 [(0, .ref b), (1, .ref x0), (2, .ref m0), (3, .ref o0), (4, .int i)]) (hi0 : 0 ≤ i.toInt) (hiL : i.toInt + 7 ≤ (L : Int)) (hk : k + 3 ≤ 601024) (hn : n + 300 ≤ 7293034) (J : ∀ (sg : zSy) (C Rr : va_W) (fo : Nat → Int64) (H : Heap) (locs : List Loc) (ls : Array Slot), zOkG sg → zCi cI cJ cQ x0 sg C → zRi cI m0 sg Rr → va_P (dC, dI) vwCl (C ++ ((o0, .inl (cJ, 1, .inr (.inl fo))) :: Rr)) H → va_D (fun q : Nat => s.heap.size ≤ q) (C ++ ((o0, .inl (cJ, 1, .inr (.inl fo))) :: Rr)) → va_S (fun q : Nat => s.heap.size ≤ q) s.heap H locs → lv_has ls 7 [(0, .ref b), (1, .ref x0), (2, .ref m0), (3, .ref o0), (4, .int i)] → W p l e room_1 s m #[Value.ref b] below meth c H locs (k + 3) (n + 300) (lw_Z below #[Value.ref b] s) (F0 m 1797 ls [])) : W p l e room_1 s m #[Value.ref b] below meth c H locs k n (lw_Z below #[Value.ref b] s) (F0 m 321 ls []) := by
  obtain ⟨hx, hb, hr, hml, hown, hts0, hX, hbl, hlocks, hgv⟩ := id C0
  have hts : ∀ w ∈ wA, w.before #[Value.ref b] s = true := fun w h => hts0 w (List.mem_filter.mp h).1
  have hown : s.vm.findClass RL = some m.cls := hown
  have hcf : CallFix p m c code 7 s #[Value.ref b] wA RL := ⟨hx, hb, hml, hown, hts⟩
  have hbA : ¬ (fun q : Nat => s.heap.size ≤ q) b := Nat.not_le.mpr hbl
  refine lv_aload_n hx hb dL_law_321 rfl (lv_at hl 1 rfl) ?_
  refine lv_aload_n hx hb dL_law_322 rfl (lv_at hl 0 rfl) ?_
  refine lv_iload hx hb dL_law_323 (lv_at hl 4 rfl) ?_
  refine lv_iconst (v := 1) hx hb dL_law_325 (by decide) ?_
  refine lv_iadd hx hb dL_law_326 ?_
  refine lv_topi (fun v326 e326 => ?_)
  have i326 : v326.toInt = i.toInt + 1 := zadd e326 rfl (by decide) (by omega) (by omega)
  refine va_sld hx hb hX hbl hbA hS (vp_in_iff.mpr ⟨by omega, by omega⟩) dL_law_327 ?_
  refine lv_topi (fun v327 e327 => ?_)
  refine k_X10_end (rest := []) hcf hK3 hV hC hO hP hD hS (fun _ h => h) hl.1 (Nat.le_of_ble_eq_true rfl) (by show k + 0 ≤ 601024; omega) (by show n + 0 ≤ 7293034; omega) dL_law_328 (fun v328 C H locs hv1 hC hP hD hS => ?_)
  refine lv_pop hx hb dL_law_331 rfl ?_
  refine lv_aload_n hx hb dL_law_332 rfl (lv_at hl 2 rfl) ?_
  refine lv_aload_n hx hb dL_law_333 rfl (lv_at hl 0 rfl) ?_
  refine lv_iload hx hb dL_law_334 (lv_at hl 4 rfl) ?_
  refine lv_iconst (v := 1) hx hb dL_law_336 (by decide) ?_
  refine lv_iadd hx hb dL_law_337 ?_
  refine lv_topi (fun v337 e337 => ?_)
  have i337 : v337.toInt = i.toInt + 1 := zadd e337 rfl (by decide) (by omega) (by omega)
  refine va_sld hx hb hX hbl hbA hS (vp_in_iff.mpr ⟨by omega, by omega⟩) dL_law_338 ?_
  refine lv_topi (fun v338 e338 => ?_)
  have hP := zRotP hP
  have hD := zRotD hD
  refine k_X11_end (rest := []) hcf hK3 hV hR hO hP hD hS (fun _ h => h) hl.1 (Nat.le_of_ble_eq_true rfl) (by show k + 0 ≤ 601024; omega) (by show n + 0 ≤ 7293034; omega) dL_law_339 (fun v339 Rr H locs hv2 hR hP hD hS => ?_)
  have hP := zRotP' hP
  have hD := zRotD' hD
  have ev0 : v338 = v327 := by rw [e338, e327, e337, e326]
  rw [ev0] at hv2 hR
  have er : v328.toInt = v339.toInt := hv1.trans hv2.symm
  have hO : zOkG (sT_end sg.1 v327, sg.2.1, sg.2.2.1, sg.2.2.2.1, sg.2.2.2.2.1, sg.2.2.2.2.2.1, sg.2.2.2.2.2.2) := ⟨hO.1, hO.2⟩
  refine lv_pop hx hb dL_law_342 rfl ?_
  refine lv_goto (tgt := 1797) hx hb dL_law_343 (by decide) ?_
  refine W.widen (k := k + 3) (n := n + 300) (by omega) (by omega) ?_
  exact J _ C Rr fo H locs ls hO hC hR hP hD hS (lv_sub hl [0, 1, 2, 3, 4] rfl)
set_option maxHeartbeats 4000000 in
set_option maxRecDepth 100000 in
theorem law_case_2 {p : Program} {l : Launch} {e : Env} {s : State} {m : MethodId} {below : List Frame} {meth : Method} {c : Code} {b L : Nat} {xs : Nat → Int32} {dC : Nat → ClassId} {dI : Nat → Nat → Nat} {cI cJ cQ : ClassId} {x0 m0 o0 : Nat} (hl0 : l.stackTraces = false) (C0 : lw_At p s m meth c b L xs) (hK3 : va_K (dC, dI) vwCl [(cI, .int), (cJ, .long), (cQ, .object "NinePortraits$Law")] s) (hV : zV (fun q : Nat => s.heap.size ≤ q) s) (hG : zG (fun q : Nat => s.heap.size ≤ q) s) (hCa : zCa s) (hL : L ≤ 3584) {sg : zSy} {C Rr : va_W} {fo : Nat → Int64} {i : Int32} {H : Heap} {locs : List Loc} {ls : Array Slot} {k n : Nat} (hO : zOkG sg) (hC : zCi cI cJ cQ x0 sg C) (hR : zRi cI m0 sg Rr) (hP : va_P (dC, dI) vwCl (C ++ ((o0, .inl (cJ, 1, .inr (.inl fo))) :: Rr)) H) (hD : va_D (fun q : Nat => s.heap.size ≤ q) (C ++ ((o0, .inl (cJ, 1, .inr (.inl fo))) :: Rr))) (hS : va_S (fun q : Nat => s.heap.size ≤ q) s.heap H locs) (hl : lv_has ls 7 [(0, .ref b), (1, .ref x0), (2, .ref m0), (3, .ref o0), (4, .int i)]) (hi0 : 0 ≤ i.toInt) (hiL : i.toInt + 7 ≤ (L : Int)) (hk : k + 3 ≤ 601024) (hn : n + 300 ≤ 7293034) (J : ∀ (sg : zSy) (C Rr : va_W) (fo : Nat → Int64) (H : Heap) (locs : List Loc) (ls : Array Slot), zOkG sg → zCi cI cJ cQ x0 sg C → zRi cI m0 sg Rr → va_P (dC, dI) vwCl (C ++ ((o0, .inl (cJ, 1, .inr (.inl fo))) :: Rr)) H → va_D (fun q : Nat => s.heap.size ≤ q) (C ++ ((o0, .inl (cJ, 1, .inr (.inl fo))) :: Rr)) → va_S (fun q : Nat => s.heap.size ≤ q) s.heap H locs → lv_has ls 7 [(0, .ref b), (1, .ref x0), (2, .ref m0), (3, .ref o0), (4, .int i)] → W p l e room_1 s m #[Value.ref b] below meth c H locs (k + 3) (n + 300) (lw_Z below #[Value.ref b] s) (F0 m 1797 ls [])) : W p l e room_1 s m #[Value.ref b] below meth c H locs k n (lw_Z below #[Value.ref b] s) (F0 m 346 ls []) := by
  obtain ⟨hx, hb, hr, hml, hown, hts0, hX, hbl, hlocks, hgv⟩ := id C0
  have hts : ∀ w ∈ wA, w.before #[Value.ref b] s = true := fun w h => hts0 w (List.mem_filter.mp h).1
  have hown : s.vm.findClass RL = some m.cls := hown
  have hcf : CallFix p m c code 7 s #[Value.ref b] wA RL := ⟨hx, hb, hml, hown, hts⟩
  have hbA : ¬ (fun q : Nat => s.heap.size ≤ q) b := Nat.not_le.mpr hbl
  refine lv_aload_n hx hb dL_law_346 rfl (lv_at hl 1 rfl) ?_
  refine lv_aload_n hx hb dL_law_347 rfl (lv_at hl 0 rfl) ?_
  refine lv_iload hx hb dL_law_348 (lv_at hl 4 rfl) ?_
  refine lv_iconst (v := 1) hx hb dL_law_350 (by decide) ?_
  refine lv_iadd hx hb dL_law_351 ?_
  refine lv_topi (fun v351 e351 => ?_)
  have i351 : v351.toInt = i.toInt + 1 := zadd e351 rfl (by decide) (by omega) (by omega)
  refine va_sld hx hb hX hbl hbA hS (vp_in_iff.mpr ⟨by omega, by omega⟩) dL_law_352 ?_
  refine lv_topi (fun v352 e352 => ?_)
  refine k_X10_fault (rest := []) hcf hK3 hV hC hO hP hD hS (fun _ h => h) hl.1 (Nat.le_of_ble_eq_true rfl) (by show k + 0 ≤ 601024; omega) (by show n + 0 ≤ 7293034; omega) dL_law_353 (fun v353 C H locs hv1 hC hP hD hS => ?_)
  refine lv_pop hx hb dL_law_356 rfl ?_
  refine lv_aload_n hx hb dL_law_357 rfl (lv_at hl 2 rfl) ?_
  refine lv_aload_n hx hb dL_law_358 rfl (lv_at hl 0 rfl) ?_
  refine lv_iload hx hb dL_law_359 (lv_at hl 4 rfl) ?_
  refine lv_iconst (v := 1) hx hb dL_law_361 (by decide) ?_
  refine lv_iadd hx hb dL_law_362 ?_
  refine lv_topi (fun v362 e362 => ?_)
  have i362 : v362.toInt = i.toInt + 1 := zadd e362 rfl (by decide) (by omega) (by omega)
  refine va_sld hx hb hX hbl hbA hS (vp_in_iff.mpr ⟨by omega, by omega⟩) dL_law_363 ?_
  refine lv_topi (fun v363 e363 => ?_)
  have hP := zRotP hP
  have hD := zRotD hD
  refine k_X11_fault (rest := []) hcf hK3 hV hR hO hP hD hS (fun _ h => h) hl.1 (Nat.le_of_ble_eq_true rfl) (by show k + 0 ≤ 601024; omega) (by show n + 0 ≤ 7293034; omega) dL_law_364 (fun v364 Rr H locs hv2 hR hP hD hS => ?_)
  have hP := zRotP' hP
  have hD := zRotD' hD
  have ev0 : v363 = v352 := by rw [e363, e352, e362, e351]
  rw [ev0] at hv2
  have er : v353.toInt = v364.toInt := hv1.trans hv2.symm
  refine lv_pop hx hb dL_law_367 rfl ?_
  refine lv_goto (tgt := 1797) hx hb dL_law_368 (by decide) ?_
  refine W.widen (k := k + 3) (n := n + 300) (by omega) (by omega) ?_
  exact J _ C Rr fo H locs ls hO hC hR hP hD hS (lv_sub hl [0, 1, 2, 3, 4] rfl)
set_option maxHeartbeats 4000000 in
set_option maxRecDepth 100000 in
theorem law_case_3 {p : Program} {l : Launch} {e : Env} {s : State} {m : MethodId} {below : List Frame} {meth : Method} {c : Code} {b L : Nat} {xs : Nat → Int32} {dC : Nat → ClassId} {dI : Nat → Nat → Nat} {cI cJ cQ : ClassId} {x0 m0 o0 : Nat} (hl0 : l.stackTraces = false) (C0 : lw_At p s m meth c b L xs) (hK3 : va_K (dC, dI) vwCl [(cI, .int), (cJ, .long), (cQ, .object "NinePortraits$Law")] s) (hV : zV (fun q : Nat => s.heap.size ≤ q) s) (hG : zG (fun q : Nat => s.heap.size ≤ q) s) (hCa : zCa s) (hL : L ≤ 3584) {sg : zSy} {C Rr : va_W} {fo : Nat → Int64} {i : Int32} {H : Heap} {locs : List Loc} {ls : Array Slot} {k n : Nat} (hO : zOkG sg) (hC : zCi cI cJ cQ x0 sg C) (hR : zRi cI m0 sg Rr) (hP : va_P (dC, dI) vwCl (C ++ ((o0, .inl (cJ, 1, .inr (.inl fo))) :: Rr)) H) (hD : va_D (fun q : Nat => s.heap.size ≤ q) (C ++ ((o0, .inl (cJ, 1, .inr (.inl fo))) :: Rr))) (hS : va_S (fun q : Nat => s.heap.size ≤ q) s.heap H locs) (hl : lv_has ls 7 [(0, .ref b), (1, .ref x0), (2, .ref m0), (3, .ref o0), (4, .int i)]) (hi0 : 0 ≤ i.toInt) (hiL : i.toInt + 7 ≤ (L : Int)) (hk : k + 3 ≤ 601024) (hn : n + 300 ≤ 7293034) (J : ∀ (sg : zSy) (C Rr : va_W) (fo : Nat → Int64) (H : Heap) (locs : List Loc) (ls : Array Slot), zOkG sg → zCi cI cJ cQ x0 sg C → zRi cI m0 sg Rr → va_P (dC, dI) vwCl (C ++ ((o0, .inl (cJ, 1, .inr (.inl fo))) :: Rr)) H → va_D (fun q : Nat => s.heap.size ≤ q) (C ++ ((o0, .inl (cJ, 1, .inr (.inl fo))) :: Rr)) → va_S (fun q : Nat => s.heap.size ≤ q) s.heap H locs → lv_has ls 7 [(0, .ref b), (1, .ref x0), (2, .ref m0), (3, .ref o0), (4, .int i)] → W p l e room_1 s m #[Value.ref b] below meth c H locs (k + 3) (n + 300) (lw_Z below #[Value.ref b] s) (F0 m 1797 ls [])) : W p l e room_1 s m #[Value.ref b] below meth c H locs k n (lw_Z below #[Value.ref b] s) (F0 m 371 ls []) := by
  obtain ⟨hx, hb, hr, hml, hown, hts0, hX, hbl, hlocks, hgv⟩ := id C0
  have hts : ∀ w ∈ wA, w.before #[Value.ref b] s = true := fun w h => hts0 w (List.mem_filter.mp h).1
  have hown : s.vm.findClass RL = some m.cls := hown
  have hcf : CallFix p m c code 7 s #[Value.ref b] wA RL := ⟨hx, hb, hml, hown, hts⟩
  have hbA : ¬ (fun q : Nat => s.heap.size ≤ q) b := Nat.not_le.mpr hbl
  refine lv_aload_n hx hb dL_law_371 rfl (lv_at hl 1 rfl) ?_
  refine lv_aload_n hx hb dL_law_372 rfl (lv_at hl 0 rfl) ?_
  refine lv_iload hx hb dL_law_373 (lv_at hl 4 rfl) ?_
  refine lv_iconst (v := 1) hx hb dL_law_375 (by decide) ?_
  refine lv_iadd hx hb dL_law_376 ?_
  refine lv_topi (fun v376 e376 => ?_)
  have i376 : v376.toInt = i.toInt + 1 := zadd e376 rfl (by decide) (by omega) (by omega)
  refine va_sld hx hb hX hbl hbA hS (vp_in_iff.mpr ⟨by omega, by omega⟩) dL_law_377 ?_
  refine lv_topi (fun v377 e377 => ?_)
  refine k_X10_text (rest := []) hcf hK3 hV hC hO hP hD hS (fun _ h => h) hl.1 (Nat.le_of_ble_eq_true rfl) hCa (by show k + 2 ≤ 601024; omega) (by show n + 242 ≤ 7293034; omega) dL_law_378 (fun v378 C H locs hv1 hC hP hD hS => ?_)
  refine lv_pop hx hb dL_law_381 rfl ?_
  refine lv_aload_n hx hb dL_law_382 rfl (lv_at hl 2 rfl) ?_
  refine lv_aload_n hx hb dL_law_383 rfl (lv_at hl 0 rfl) ?_
  refine lv_iload hx hb dL_law_384 (lv_at hl 4 rfl) ?_
  refine lv_iconst (v := 1) hx hb dL_law_386 (by decide) ?_
  refine lv_iadd hx hb dL_law_387 ?_
  refine lv_topi (fun v387 e387 => ?_)
  have i387 : v387.toInt = i.toInt + 1 := zadd e387 rfl (by decide) (by omega) (by omega)
  refine va_sld hx hb hX hbl hbA hS (vp_in_iff.mpr ⟨by omega, by omega⟩) dL_law_388 ?_
  refine lv_topi (fun v388 e388 => ?_)
  have hP := zRotP hP
  have hD := zRotD hD
  refine k_X11_text (rest := []) hcf hK3 hV hR hO hP hD hS (fun _ h => h) hl.1 (Nat.le_of_ble_eq_true rfl) (by show k + 2 + 0 ≤ 601024; omega) (by show n + 242 + 0 ≤ 7293034; omega) dL_law_389 (fun v389 Rr H locs hv2 hR hP hD hS => ?_)
  have hP := zRotP' hP
  have hD := zRotD' hD
  have ev0 : v388 = v377 := by rw [e388, e377, e387, e376]
  rw [ev0] at hv2 hR
  have er : v378.toInt = v389.toInt := hv1.trans hv2.symm
  have hO : zOkG (sT_text sg.1 sg.2.1 v377, sL_text sg.1 sg.2.1 v377, sg.2.2.1, sK_text sg.1 sg.2.2.2.1 v377, sH_text sg.1 sg.2.1 v377 sg.2.2.2.2.1, sTT_text sg.1 sg.2.2.2.2.2.1 v377, sI_text sg.1 sg.2.2.2.2.2.2 v377) := ⟨ok_text hO.1 (zRi_b hR), sL_text_b hO.2⟩
  refine lv_pop hx hb dL_law_392 rfl ?_
  refine lv_goto (tgt := 1797) hx hb dL_law_393 (by decide) ?_
  refine W.widen (k := k + 3) (n := n + 300) (by omega) (by omega) ?_
  exact J _ C Rr fo H locs ls hO hC hR hP hD hS (lv_sub hl [0, 1, 2, 3, 4] rfl)
set_option maxHeartbeats 4000000 in
set_option maxRecDepth 100000 in
theorem law_case_4 {p : Program} {l : Launch} {e : Env} {s : State} {m : MethodId} {below : List Frame} {meth : Method} {c : Code} {b L : Nat} {xs : Nat → Int32} {dC : Nat → ClassId} {dI : Nat → Nat → Nat} {cI cJ cQ : ClassId} {x0 m0 o0 : Nat} (hl0 : l.stackTraces = false) (C0 : lw_At p s m meth c b L xs) (hK3 : va_K (dC, dI) vwCl [(cI, .int), (cJ, .long), (cQ, .object "NinePortraits$Law")] s) (hV : zV (fun q : Nat => s.heap.size ≤ q) s) (hG : zG (fun q : Nat => s.heap.size ≤ q) s) (hCa : zCa s) (hL : L ≤ 3584) {sg : zSy} {C Rr : va_W} {fo : Nat → Int64} {i : Int32} {H : Heap} {locs : List Loc} {ls : Array Slot} {k n : Nat} (hO : zOkG sg) (hC : zCi cI cJ cQ x0 sg C) (hR : zRi cI m0 sg Rr) (hP : va_P (dC, dI) vwCl (C ++ ((o0, .inl (cJ, 1, .inr (.inl fo))) :: Rr)) H) (hD : va_D (fun q : Nat => s.heap.size ≤ q) (C ++ ((o0, .inl (cJ, 1, .inr (.inl fo))) :: Rr))) (hS : va_S (fun q : Nat => s.heap.size ≤ q) s.heap H locs) (hl : lv_has ls 7 [(0, .ref b), (1, .ref x0), (2, .ref m0), (3, .ref o0), (4, .int i)]) (hi0 : 0 ≤ i.toInt) (hiL : i.toInt + 7 ≤ (L : Int)) (hk : k + 3 ≤ 601024) (hn : n + 300 ≤ 7293034) (J : ∀ (sg : zSy) (C Rr : va_W) (fo : Nat → Int64) (H : Heap) (locs : List Loc) (ls : Array Slot), zOkG sg → zCi cI cJ cQ x0 sg C → zRi cI m0 sg Rr → va_P (dC, dI) vwCl (C ++ ((o0, .inl (cJ, 1, .inr (.inl fo))) :: Rr)) H → va_D (fun q : Nat => s.heap.size ≤ q) (C ++ ((o0, .inl (cJ, 1, .inr (.inl fo))) :: Rr)) → va_S (fun q : Nat => s.heap.size ≤ q) s.heap H locs → lv_has ls 7 [(0, .ref b), (1, .ref x0), (2, .ref m0), (3, .ref o0), (4, .int i)] → W p l e room_1 s m #[Value.ref b] below meth c H locs (k + 3) (n + 300) (lw_Z below #[Value.ref b] s) (F0 m 1797 ls [])) : W p l e room_1 s m #[Value.ref b] below meth c H locs k n (lw_Z below #[Value.ref b] s) (F0 m 396 ls []) := by
  obtain ⟨hx, hb, hr, hml, hown, hts0, hX, hbl, hlocks, hgv⟩ := id C0
  have hts : ∀ w ∈ wA, w.before #[Value.ref b] s = true := fun w h => hts0 w (List.mem_filter.mp h).1
  have hown : s.vm.findClass RL = some m.cls := hown
  have hcf : CallFix p m c code 7 s #[Value.ref b] wA RL := ⟨hx, hb, hml, hown, hts⟩
  have hbA : ¬ (fun q : Nat => s.heap.size ≤ q) b := Nat.not_le.mpr hbl
  refine lv_aload_n hx hb dL_law_396 rfl (lv_at hl 1 rfl) ?_
  refine lv_aload_n hx hb dL_law_397 rfl (lv_at hl 0 rfl) ?_
  refine lv_iload hx hb dL_law_398 (lv_at hl 4 rfl) ?_
  refine lv_iconst (v := 1) hx hb dL_law_400 (by decide) ?_
  refine lv_iadd hx hb dL_law_401 ?_
  refine lv_topi (fun v401 e401 => ?_)
  have i401 : v401.toInt = i.toInt + 1 := zadd e401 rfl (by decide) (by omega) (by omega)
  refine va_sld hx hb hX hbl hbA hS (vp_in_iff.mpr ⟨by omega, by omega⟩) dL_law_402 ?_
  refine lv_topi (fun v402 e402 => ?_)
  refine k_X10_rule (rest := []) hcf hK3 hV hC hO hP hD hS (fun _ h => h) hl.1 (Nat.le_of_ble_eq_true rfl) (by show k + 0 ≤ 601024; omega) (by show n + 0 ≤ 7293034; omega) dL_law_403 (fun v403 C H locs hv1 hC hP hD hS => ?_)
  refine lv_pop hx hb dL_law_406 rfl ?_
  refine lv_aload_n hx hb dL_law_407 rfl (lv_at hl 2 rfl) ?_
  refine lv_aload_n hx hb dL_law_408 rfl (lv_at hl 0 rfl) ?_
  refine lv_iload hx hb dL_law_409 (lv_at hl 4 rfl) ?_
  refine lv_iconst (v := 1) hx hb dL_law_411 (by decide) ?_
  refine lv_iadd hx hb dL_law_412 ?_
  refine lv_topi (fun v412 e412 => ?_)
  have i412 : v412.toInt = i.toInt + 1 := zadd e412 rfl (by decide) (by omega) (by omega)
  refine va_sld hx hb hX hbl hbA hS (vp_in_iff.mpr ⟨by omega, by omega⟩) dL_law_413 ?_
  refine lv_topi (fun v413 e413 => ?_)
  have hP := zRotP hP
  have hD := zRotD hD
  refine k_X11_rule (rest := []) hcf hK3 hV hR hO hP hD hS (fun _ h => h) hl.1 (Nat.le_of_ble_eq_true rfl) (by show k + 0 ≤ 601024; omega) (by show n + 0 ≤ 7293034; omega) dL_law_414 (fun v414 Rr H locs hv2 hR hP hD hS => ?_)
  have hP := zRotP' hP
  have hD := zRotD' hD
  have ev0 : v413 = v402 := by rw [e413, e402, e412, e401]
  rw [ev0] at hv2
  have er : v403.toInt = v414.toInt := congrArg Int32.toInt (hv1.trans hv2.symm)
  refine lv_pop hx hb dL_law_417 rfl ?_
  refine lv_goto (tgt := 1797) hx hb dL_law_418 (by decide) ?_
  refine W.widen (k := k + 3) (n := n + 300) (by omega) (by omega) ?_
  exact J _ C Rr fo H locs ls hO hC hR hP hD hS (lv_sub hl [0, 1, 2, 3, 4] rfl)
set_option maxHeartbeats 4000000 in
set_option maxRecDepth 100000 in
theorem law_case_5 {p : Program} {l : Launch} {e : Env} {s : State} {m : MethodId} {below : List Frame} {meth : Method} {c : Code} {b L : Nat} {xs : Nat → Int32} {dC : Nat → ClassId} {dI : Nat → Nat → Nat} {cI cJ cQ : ClassId} {x0 m0 o0 : Nat} (hl0 : l.stackTraces = false) (C0 : lw_At p s m meth c b L xs) (hK3 : va_K (dC, dI) vwCl [(cI, .int), (cJ, .long), (cQ, .object "NinePortraits$Law")] s) (hV : zV (fun q : Nat => s.heap.size ≤ q) s) (hG : zG (fun q : Nat => s.heap.size ≤ q) s) (hCa : zCa s) (hL : L ≤ 3584) {sg : zSy} {C Rr : va_W} {fo : Nat → Int64} {i : Int32} {H : Heap} {locs : List Loc} {ls : Array Slot} {k n : Nat} (hO : zOkG sg) (hC : zCi cI cJ cQ x0 sg C) (hR : zRi cI m0 sg Rr) (hP : va_P (dC, dI) vwCl (C ++ ((o0, .inl (cJ, 1, .inr (.inl fo))) :: Rr)) H) (hD : va_D (fun q : Nat => s.heap.size ≤ q) (C ++ ((o0, .inl (cJ, 1, .inr (.inl fo))) :: Rr))) (hS : va_S (fun q : Nat => s.heap.size ≤ q) s.heap H locs) (hl : lv_has ls 7 [(0, .ref b), (1, .ref x0), (2, .ref m0), (3, .ref o0), (4, .int i)]) (hi0 : 0 ≤ i.toInt) (hiL : i.toInt + 7 ≤ (L : Int)) (hk : k + 3 ≤ 601024) (hn : n + 300 ≤ 7293034) (J : ∀ (sg : zSy) (C Rr : va_W) (fo : Nat → Int64) (H : Heap) (locs : List Loc) (ls : Array Slot), zOkG sg → zCi cI cJ cQ x0 sg C → zRi cI m0 sg Rr → va_P (dC, dI) vwCl (C ++ ((o0, .inl (cJ, 1, .inr (.inl fo))) :: Rr)) H → va_D (fun q : Nat => s.heap.size ≤ q) (C ++ ((o0, .inl (cJ, 1, .inr (.inl fo))) :: Rr)) → va_S (fun q : Nat => s.heap.size ≤ q) s.heap H locs → lv_has ls 7 [(0, .ref b), (1, .ref x0), (2, .ref m0), (3, .ref o0), (4, .int i)] → W p l e room_1 s m #[Value.ref b] below meth c H locs (k + 3) (n + 300) (lw_Z below #[Value.ref b] s) (F0 m 1797 ls [])) : W p l e room_1 s m #[Value.ref b] below meth c H locs k n (lw_Z below #[Value.ref b] s) (F0 m 421 ls []) := by
  obtain ⟨hx, hb, hr, hml, hown, hts0, hX, hbl, hlocks, hgv⟩ := id C0
  have hts : ∀ w ∈ wA, w.before #[Value.ref b] s = true := fun w h => hts0 w (List.mem_filter.mp h).1
  have hown : s.vm.findClass RL = some m.cls := hown
  have hcf : CallFix p m c code 7 s #[Value.ref b] wA RL := ⟨hx, hb, hml, hown, hts⟩
  have hbA : ¬ (fun q : Nat => s.heap.size ≤ q) b := Nat.not_le.mpr hbl
  refine lv_aload_n hx hb dL_law_421 rfl (lv_at hl 1 rfl) ?_
  refine lv_aload_n hx hb dL_law_422 rfl (lv_at hl 0 rfl) ?_
  refine lv_iload hx hb dL_law_423 (lv_at hl 4 rfl) ?_
  refine lv_iconst (v := 1) hx hb dL_law_425 (by decide) ?_
  refine lv_iadd hx hb dL_law_426 ?_
  refine lv_topi (fun v426 e426 => ?_)
  have i426 : v426.toInt = i.toInt + 1 := zadd e426 rfl (by decide) (by omega) (by omega)
  refine va_sld hx hb hX hbl hbA hS (vp_in_iff.mpr ⟨by omega, by omega⟩) dL_law_427 ?_
  refine lv_topi (fun v427 e427 => ?_)
  refine lv_aload_n hx hb dL_law_428 rfl (lv_at hl 0 rfl) ?_
  refine lv_iload hx hb dL_law_429 (lv_at hl 4 rfl) ?_
  refine lv_iconst (v := 2) hx hb dL_law_431 (by decide) ?_
  refine lv_iadd hx hb dL_law_432 ?_
  refine lv_topi (fun v432 e432 => ?_)
  have i432 : v432.toInt = i.toInt + 2 := zadd e432 rfl (by decide) (by omega) (by omega)
  refine va_sld hx hb hX hbl hbA hS (vp_in_iff.mpr ⟨by omega, by omega⟩) dL_law_433 ?_
  refine lv_topi (fun v433 e433 => ?_)
  refine lv_aload_n hx hb dL_law_434 rfl (lv_at hl 3 rfl) ?_
  refine k_L_bride (rest := []) hcf hK3 hV hC hO hP hD hS (fun _ h => h) hl.1 (Nat.le_of_ble_eq_true rfl) hl0 hG (by show k + 1 ≤ 601024; omega) (by show n + 6 ≤ 7293034; omega) dL_law_435 (fun v435 C fo H locs hq1 hC hP hD hS => ?_)
  refine lv_istore (lv' := [(5, .int v435), (0, .ref b), (1, .ref x0), (2, .ref m0), (3, .ref o0), (4, .int i)]) hx hb dL_law_438 hl (by decide) rfl (fun ls hl => ?_)
  refine lv_aload_n hx hb dL_law_440 rfl (lv_at hl 3 rfl) ?_
  refine lv_aload_n hx hb dL_law_441 rfl (lv_at hl 1 rfl) ?_
  refine lv_iload hx hb dL_law_442 (lv_at hl 5 rfl) ?_
  refine lv_iconst (v := 1) hx hb dL_law_444 (by decide) ?_
  refine lv_iadd hx hb dL_law_445 ?_
  refine lv_topi (fun v445 e445 => ?_)
  have i445 : v445.toInt = i.toInt + 1 := zadd e445 rfl (by decide) (by omega) (by omega)
  refine va_sld hx hb hX hbl hbA hS (vp_in_iff.mpr ⟨by omega, by omega⟩) dL_law_446 ?_
  refine lv_topi (fun v446 e446 => ?_)
  refine lv_aload_n hx hb dL_law_447 rfl (lv_at hl 1 rfl) ?_
  refine lv_iload hx hb dL_law_448 (lv_at hl 5 rfl) ?_
  refine lv_iconst (v := 2) hx hb dL_law_450 (by decide) ?_
  refine lv_iadd hx hb dL_law_451 ?_
  refine lv_topi (fun v451 e451 => ?_)
  have i451 : v451.toInt = i.toInt + 2 := zadd e451 rfl (by decide) (by omega) (by omega)
  refine va_sld hx hb hX hbl hbA hS (vp_in_iff.mpr ⟨by omega, by omega⟩) dL_law_452 ?_
  refine lv_topi (fun v452 e452 => ?_)
  have hP := zRotP hP
  have hD := zRotD hD
  refine k_X11_bride (rest := []) hcf hK3 hV hR hO hP hD hS (fun _ h => h) hl.1 (Nat.le_of_ble_eq_true rfl) (by show k + 1 + 0 ≤ 601024; omega) (by show n + 6 + 0 ≤ 7293034; omega) dL_law_453 (fun v453 Rr H locs hR hP hD hS => ?_)
  have hP := zRotP' hP
  have hD := zRotD' hD
  refine lv_istore (lv' := [(6, .int v453), (5, .int v435), (0, .ref b), (1, .ref x0), (2, .ref m0), (3, .ref o0), (4, .int i)]) hx hb dL_law_456 hl (by decide) rfl (fun ls hl => ?_)
  refine lv_goto (tgt := 1797) hx hb dL_law_458 (by decide) ?_
  refine W.widen (k := k + 3) (n := n + 300) (by omega) (by omega) ?_
  exact J _ C Rr fo H locs ls hO hC hR hP hD hS (lv_sub hl [2, 3, 4, 5, 6] rfl)
set_option maxHeartbeats 4000000 in
set_option maxRecDepth 100000 in
theorem law_case_6 {p : Program} {l : Launch} {e : Env} {s : State} {m : MethodId} {below : List Frame} {meth : Method} {c : Code} {b L : Nat} {xs : Nat → Int32} {dC : Nat → ClassId} {dI : Nat → Nat → Nat} {cI cJ cQ : ClassId} {x0 m0 o0 : Nat} (hl0 : l.stackTraces = false) (C0 : lw_At p s m meth c b L xs) (hK3 : va_K (dC, dI) vwCl [(cI, .int), (cJ, .long), (cQ, .object "NinePortraits$Law")] s) (hV : zV (fun q : Nat => s.heap.size ≤ q) s) (hG : zG (fun q : Nat => s.heap.size ≤ q) s) (hCa : zCa s) (hL : L ≤ 3584) {sg : zSy} {C Rr : va_W} {fo : Nat → Int64} {i : Int32} {H : Heap} {locs : List Loc} {ls : Array Slot} {k n : Nat} (hO : zOkG sg) (hC : zCi cI cJ cQ x0 sg C) (hR : zRi cI m0 sg Rr) (hP : va_P (dC, dI) vwCl (C ++ ((o0, .inl (cJ, 1, .inr (.inl fo))) :: Rr)) H) (hD : va_D (fun q : Nat => s.heap.size ≤ q) (C ++ ((o0, .inl (cJ, 1, .inr (.inl fo))) :: Rr))) (hS : va_S (fun q : Nat => s.heap.size ≤ q) s.heap H locs) (hl : lv_has ls 7 [(0, .ref b), (1, .ref x0), (2, .ref m0), (3, .ref o0), (4, .int i)]) (hi0 : 0 ≤ i.toInt) (hiL : i.toInt + 7 ≤ (L : Int)) (hk : k + 3 ≤ 601024) (hn : n + 300 ≤ 7293034) (J : ∀ (sg : zSy) (C Rr : va_W) (fo : Nat → Int64) (H : Heap) (locs : List Loc) (ls : Array Slot), zOkG sg → zCi cI cJ cQ x0 sg C → zRi cI m0 sg Rr → va_P (dC, dI) vwCl (C ++ ((o0, .inl (cJ, 1, .inr (.inl fo))) :: Rr)) H → va_D (fun q : Nat => s.heap.size ≤ q) (C ++ ((o0, .inl (cJ, 1, .inr (.inl fo))) :: Rr)) → va_S (fun q : Nat => s.heap.size ≤ q) s.heap H locs → lv_has ls 7 [(0, .ref b), (1, .ref x0), (2, .ref m0), (3, .ref o0), (4, .int i)] → W p l e room_1 s m #[Value.ref b] below meth c H locs (k + 3) (n + 300) (lw_Z below #[Value.ref b] s) (F0 m 1797 ls [])) : W p l e room_1 s m #[Value.ref b] below meth c H locs k n (lw_Z below #[Value.ref b] s) (F0 m 461 ls []) := by
  obtain ⟨hx, hb, hr, hml, hown, hts0, hX, hbl, hlocks, hgv⟩ := id C0
  have hts : ∀ w ∈ wA, w.before #[Value.ref b] s = true := fun w h => hts0 w (List.mem_filter.mp h).1
  have hown : s.vm.findClass RL = some m.cls := hown
  have hcf : CallFix p m c code 7 s #[Value.ref b] wA RL := ⟨hx, hb, hml, hown, hts⟩
  have hbA : ¬ (fun q : Nat => s.heap.size ≤ q) b := Nat.not_le.mpr hbl
  refine lv_aload_n hx hb dL_law_461 rfl (lv_at hl 1 rfl) ?_
  refine lv_aload_n hx hb dL_law_462 rfl (lv_at hl 0 rfl) ?_
  refine lv_iload hx hb dL_law_463 (lv_at hl 4 rfl) ?_
  refine lv_iconst (v := 1) hx hb dL_law_465 (by decide) ?_
  refine lv_iadd hx hb dL_law_466 ?_
  refine lv_topi (fun v466 e466 => ?_)
  have i466 : v466.toInt = i.toInt + 1 := zadd e466 rfl (by decide) (by omega) (by omega)
  refine va_sld hx hb hX hbl hbA hS (vp_in_iff.mpr ⟨by omega, by omega⟩) dL_law_467 ?_
  refine lv_topi (fun v467 e467 => ?_)
  refine lv_aload_n hx hb dL_law_468 rfl (lv_at hl 0 rfl) ?_
  refine lv_iload hx hb dL_law_469 (lv_at hl 4 rfl) ?_
  refine lv_iconst (v := 2) hx hb dL_law_471 (by decide) ?_
  refine lv_iadd hx hb dL_law_472 ?_
  refine lv_topi (fun v472 e472 => ?_)
  have i472 : v472.toInt = i.toInt + 2 := zadd e472 rfl (by decide) (by omega) (by omega)
  refine va_sld hx hb hX hbl hbA hS (vp_in_iff.mpr ⟨by omega, by omega⟩) dL_law_473 ?_
  refine lv_topi (fun v473 e473 => ?_)
  refine k_X10_painter (rest := []) hcf hK3 hV hC hO hP hD hS (fun _ h => h) hl.1 (Nat.le_of_ble_eq_true rfl) (by show k + 0 ≤ 601024; omega) (by show n + 0 ≤ 7293034; omega) dL_law_474 (fun v474 C H locs hv1 hC hP hD hS => ?_)
  refine lv_pop hx hb dL_law_477 rfl ?_
  refine lv_aload_n hx hb dL_law_478 rfl (lv_at hl 2 rfl) ?_
  refine lv_aload_n hx hb dL_law_479 rfl (lv_at hl 0 rfl) ?_
  refine lv_iload hx hb dL_law_480 (lv_at hl 4 rfl) ?_
  refine lv_iconst (v := 1) hx hb dL_law_482 (by decide) ?_
  refine lv_iadd hx hb dL_law_483 ?_
  refine lv_topi (fun v483 e483 => ?_)
  have i483 : v483.toInt = i.toInt + 1 := zadd e483 rfl (by decide) (by omega) (by omega)
  refine va_sld hx hb hX hbl hbA hS (vp_in_iff.mpr ⟨by omega, by omega⟩) dL_law_484 ?_
  refine lv_topi (fun v484 e484 => ?_)
  refine lv_aload_n hx hb dL_law_485 rfl (lv_at hl 0 rfl) ?_
  refine lv_iload hx hb dL_law_486 (lv_at hl 4 rfl) ?_
  refine lv_iconst (v := 2) hx hb dL_law_488 (by decide) ?_
  refine lv_iadd hx hb dL_law_489 ?_
  refine lv_topi (fun v489 e489 => ?_)
  have i489 : v489.toInt = i.toInt + 2 := zadd e489 rfl (by decide) (by omega) (by omega)
  refine va_sld hx hb hX hbl hbA hS (vp_in_iff.mpr ⟨by omega, by omega⟩) dL_law_490 ?_
  refine lv_topi (fun v490 e490 => ?_)
  have hP := zRotP hP
  have hD := zRotD hD
  refine k_X11_painter (rest := []) hcf hK3 hV hR hO hP hD hS (fun _ h => h) hl.1 (Nat.le_of_ble_eq_true rfl) (by show k + 0 ≤ 601024; omega) (by show n + 0 ≤ 7293034; omega) dL_law_491 (fun v491 Rr H locs hv2 hR hP hD hS => ?_)
  have hP := zRotP' hP
  have hD := zRotD' hD
  have ev0 : v484 = v467 := by rw [e484, e467, e483, e466]
  rw [ev0] at hv2
  have ev1 : v490 = v473 := by rw [e490, e473, e489, e472]
  rw [ev1] at hv2
  have er : v474.toInt = v491.toInt := congrArg Int32.toInt (hv1.trans hv2.symm)
  refine lv_pop hx hb dL_law_494 rfl ?_
  refine lv_goto (tgt := 1797) hx hb dL_law_495 (by decide) ?_
  refine W.widen (k := k + 3) (n := n + 300) (by omega) (by omega) ?_
  exact J _ C Rr fo H locs ls hO hC hR hP hD hS (lv_sub hl [0, 1, 2, 3, 4] rfl)
set_option maxHeartbeats 4000000 in
set_option maxRecDepth 100000 in
theorem law_case_7 {p : Program} {l : Launch} {e : Env} {s : State} {m : MethodId} {below : List Frame} {meth : Method} {c : Code} {b L : Nat} {xs : Nat → Int32} {dC : Nat → ClassId} {dI : Nat → Nat → Nat} {cI cJ cQ : ClassId} {x0 m0 o0 : Nat} (hl0 : l.stackTraces = false) (C0 : lw_At p s m meth c b L xs) (hK3 : va_K (dC, dI) vwCl [(cI, .int), (cJ, .long), (cQ, .object "NinePortraits$Law")] s) (hV : zV (fun q : Nat => s.heap.size ≤ q) s) (hG : zG (fun q : Nat => s.heap.size ≤ q) s) (hCa : zCa s) (hL : L ≤ 3584) {sg : zSy} {C Rr : va_W} {fo : Nat → Int64} {i : Int32} {H : Heap} {locs : List Loc} {ls : Array Slot} {k n : Nat} (hO : zOkG sg) (hC : zCi cI cJ cQ x0 sg C) (hR : zRi cI m0 sg Rr) (hP : va_P (dC, dI) vwCl (C ++ ((o0, .inl (cJ, 1, .inr (.inl fo))) :: Rr)) H) (hD : va_D (fun q : Nat => s.heap.size ≤ q) (C ++ ((o0, .inl (cJ, 1, .inr (.inl fo))) :: Rr))) (hS : va_S (fun q : Nat => s.heap.size ≤ q) s.heap H locs) (hl : lv_has ls 7 [(0, .ref b), (1, .ref x0), (2, .ref m0), (3, .ref o0), (4, .int i)]) (hi0 : 0 ≤ i.toInt) (hiL : i.toInt + 7 ≤ (L : Int)) (hk : k + 3 ≤ 601024) (hn : n + 300 ≤ 7293034) (J : ∀ (sg : zSy) (C Rr : va_W) (fo : Nat → Int64) (H : Heap) (locs : List Loc) (ls : Array Slot), zOkG sg → zCi cI cJ cQ x0 sg C → zRi cI m0 sg Rr → va_P (dC, dI) vwCl (C ++ ((o0, .inl (cJ, 1, .inr (.inl fo))) :: Rr)) H → va_D (fun q : Nat => s.heap.size ≤ q) (C ++ ((o0, .inl (cJ, 1, .inr (.inl fo))) :: Rr)) → va_S (fun q : Nat => s.heap.size ≤ q) s.heap H locs → lv_has ls 7 [(0, .ref b), (1, .ref x0), (2, .ref m0), (3, .ref o0), (4, .int i)] → W p l e room_1 s m #[Value.ref b] below meth c H locs (k + 3) (n + 300) (lw_Z below #[Value.ref b] s) (F0 m 1797 ls [])) : W p l e room_1 s m #[Value.ref b] below meth c H locs k n (lw_Z below #[Value.ref b] s) (F0 m 498 ls []) := by
  obtain ⟨hx, hb, hr, hml, hown, hts0, hX, hbl, hlocks, hgv⟩ := id C0
  have hts : ∀ w ∈ wA, w.before #[Value.ref b] s = true := fun w h => hts0 w (List.mem_filter.mp h).1
  have hown : s.vm.findClass RL = some m.cls := hown
  have hcf : CallFix p m c code 7 s #[Value.ref b] wA RL := ⟨hx, hb, hml, hown, hts⟩
  have hbA : ¬ (fun q : Nat => s.heap.size ≤ q) b := Nat.not_le.mpr hbl
  refine lv_aload_n hx hb dL_law_498 rfl (lv_at hl 1 rfl) ?_
  refine lv_aload_n hx hb dL_law_499 rfl (lv_at hl 0 rfl) ?_
  refine lv_iload hx hb dL_law_500 (lv_at hl 4 rfl) ?_
  refine lv_iconst (v := 1) hx hb dL_law_502 (by decide) ?_
  refine lv_iadd hx hb dL_law_503 ?_
  refine lv_topi (fun v503 e503 => ?_)
  have i503 : v503.toInt = i.toInt + 1 := zadd e503 rfl (by decide) (by omega) (by omega)
  refine va_sld hx hb hX hbl hbA hS (vp_in_iff.mpr ⟨by omega, by omega⟩) dL_law_504 ?_
  refine lv_topi (fun v504 e504 => ?_)
  refine k_X10_law (rest := []) hcf hK3 hV hC hO hP hD hS (fun _ h => h) hl.1 (Nat.le_of_ble_eq_true rfl) (by show k + 0 ≤ 601024; omega) (by show n + 0 ≤ 7293034; omega) dL_law_505 (fun v505 C H locs hv1 hC hP hD hS => ?_)
  refine lv_pop hx hb dL_law_508 rfl ?_
  refine lv_aload_n hx hb dL_law_509 rfl (lv_at hl 2 rfl) ?_
  refine lv_aload_n hx hb dL_law_510 rfl (lv_at hl 0 rfl) ?_
  refine lv_iload hx hb dL_law_511 (lv_at hl 4 rfl) ?_
  refine lv_iconst (v := 1) hx hb dL_law_513 (by decide) ?_
  refine lv_iadd hx hb dL_law_514 ?_
  refine lv_topi (fun v514 e514 => ?_)
  have i514 : v514.toInt = i.toInt + 1 := zadd e514 rfl (by decide) (by omega) (by omega)
  refine va_sld hx hb hX hbl hbA hS (vp_in_iff.mpr ⟨by omega, by omega⟩) dL_law_515 ?_
  refine lv_topi (fun v515 e515 => ?_)
  have hP := zRotP hP
  have hD := zRotD hD
  refine k_X11_law (rest := []) hcf hK3 hV hR hO hP hD hS (fun _ h => h) hl.1 (Nat.le_of_ble_eq_true rfl) (by show k + 0 ≤ 601024; omega) (by show n + 0 ≤ 7293034; omega) dL_law_516 (fun v516 Rr H locs hv2 hR hP hD hS => ?_)
  have hP := zRotP' hP
  have hD := zRotD' hD
  have ev0 : v515 = v504 := by rw [e515, e504, e514, e503]
  rw [ev0] at hv2 hR
  have er : v505.toInt = v516.toInt := hv1.trans hv2.symm
  have hO : zOkG (sg.1, sg.2.1, sg.2.2.1, sg.2.2.2.1, sH_law sg.2.1 v504 sg.2.2.2.2.1, sg.2.2.2.2.2.1, sg.2.2.2.2.2.2) := ⟨hO.1, sH_law_b hO.2⟩
  refine lv_pop hx hb dL_law_519 rfl ?_
  refine lv_goto (tgt := 1797) hx hb dL_law_520 (by decide) ?_
  refine W.widen (k := k + 3) (n := n + 300) (by omega) (by omega) ?_
  exact J _ C Rr fo H locs ls hO hC hR hP hD hS (lv_sub hl [0, 1, 2, 3, 4] rfl)
set_option maxHeartbeats 4000000 in
set_option maxRecDepth 100000 in
theorem law_case_8 {p : Program} {l : Launch} {e : Env} {s : State} {m : MethodId} {below : List Frame} {meth : Method} {c : Code} {b L : Nat} {xs : Nat → Int32} {dC : Nat → ClassId} {dI : Nat → Nat → Nat} {cI cJ cQ : ClassId} {x0 m0 o0 : Nat} (hl0 : l.stackTraces = false) (C0 : lw_At p s m meth c b L xs) (hK3 : va_K (dC, dI) vwCl [(cI, .int), (cJ, .long), (cQ, .object "NinePortraits$Law")] s) (hV : zV (fun q : Nat => s.heap.size ≤ q) s) (hG : zG (fun q : Nat => s.heap.size ≤ q) s) (hCa : zCa s) (hL : L ≤ 3584) {sg : zSy} {C Rr : va_W} {fo : Nat → Int64} {i : Int32} {H : Heap} {locs : List Loc} {ls : Array Slot} {k n : Nat} (hO : zOkG sg) (hC : zCi cI cJ cQ x0 sg C) (hR : zRi cI m0 sg Rr) (hP : va_P (dC, dI) vwCl (C ++ ((o0, .inl (cJ, 1, .inr (.inl fo))) :: Rr)) H) (hD : va_D (fun q : Nat => s.heap.size ≤ q) (C ++ ((o0, .inl (cJ, 1, .inr (.inl fo))) :: Rr))) (hS : va_S (fun q : Nat => s.heap.size ≤ q) s.heap H locs) (hl : lv_has ls 7 [(0, .ref b), (1, .ref x0), (2, .ref m0), (3, .ref o0), (4, .int i)]) (hi0 : 0 ≤ i.toInt) (hiL : i.toInt + 7 ≤ (L : Int)) (hk : k + 3 ≤ 601024) (hn : n + 300 ≤ 7293034) (J : ∀ (sg : zSy) (C Rr : va_W) (fo : Nat → Int64) (H : Heap) (locs : List Loc) (ls : Array Slot), zOkG sg → zCi cI cJ cQ x0 sg C → zRi cI m0 sg Rr → va_P (dC, dI) vwCl (C ++ ((o0, .inl (cJ, 1, .inr (.inl fo))) :: Rr)) H → va_D (fun q : Nat => s.heap.size ≤ q) (C ++ ((o0, .inl (cJ, 1, .inr (.inl fo))) :: Rr)) → va_S (fun q : Nat => s.heap.size ≤ q) s.heap H locs → lv_has ls 7 [(0, .ref b), (1, .ref x0), (2, .ref m0), (3, .ref o0), (4, .int i)] → W p l e room_1 s m #[Value.ref b] below meth c H locs (k + 3) (n + 300) (lw_Z below #[Value.ref b] s) (F0 m 1797 ls [])) : W p l e room_1 s m #[Value.ref b] below meth c H locs k n (lw_Z below #[Value.ref b] s) (F0 m 523 ls []) := by
  obtain ⟨hx, hb, hr, hml, hown, hts0, hX, hbl, hlocks, hgv⟩ := id C0
  have hts : ∀ w ∈ wA, w.before #[Value.ref b] s = true := fun w h => hts0 w (List.mem_filter.mp h).1
  have hown : s.vm.findClass RL = some m.cls := hown
  have hcf : CallFix p m c code 7 s #[Value.ref b] wA RL := ⟨hx, hb, hml, hown, hts⟩
  have hbA : ¬ (fun q : Nat => s.heap.size ≤ q) b := Nat.not_le.mpr hbl
  refine lv_aload_n hx hb dL_law_523 rfl (lv_at hl 1 rfl) ?_
  refine lv_aload_n hx hb dL_law_524 rfl (lv_at hl 0 rfl) ?_
  refine lv_iload hx hb dL_law_525 (lv_at hl 4 rfl) ?_
  refine lv_iconst (v := 1) hx hb dL_law_527 (by decide) ?_
  refine lv_iadd hx hb dL_law_528 ?_
  refine lv_topi (fun v528 e528 => ?_)
  have i528 : v528.toInt = i.toInt + 1 := zadd e528 rfl (by decide) (by omega) (by omega)
  refine va_sld hx hb hX hbl hbA hS (vp_in_iff.mpr ⟨by omega, by omega⟩) dL_law_529 ?_
  refine lv_topi (fun v529 e529 => ?_)
  refine lv_aload_n hx hb dL_law_530 rfl (lv_at hl 0 rfl) ?_
  refine lv_iload hx hb dL_law_531 (lv_at hl 4 rfl) ?_
  refine lv_iconst (v := 2) hx hb dL_law_533 (by decide) ?_
  refine lv_iadd hx hb dL_law_534 ?_
  refine lv_topi (fun v534 e534 => ?_)
  have i534 : v534.toInt = i.toInt + 2 := zadd e534 rfl (by decide) (by omega) (by omega)
  refine va_sld hx hb hX hbl hbA hS (vp_in_iff.mpr ⟨by omega, by omega⟩) dL_law_535 ?_
  refine lv_topi (fun v535 e535 => ?_)
  refine k_X10_flattery (rest := []) hcf hK3 hV hC hO hP hD hS (fun _ h => h) hl.1 (Nat.le_of_ble_eq_true rfl) (by show k + 0 ≤ 601024; omega) (by show n + 0 ≤ 7293034; omega) dL_law_536 (fun v536 C H locs hv1 hC hP hD hS => ?_)
  refine lv_pop hx hb dL_law_539 rfl ?_
  refine lv_aload_n hx hb dL_law_540 rfl (lv_at hl 2 rfl) ?_
  refine lv_aload_n hx hb dL_law_541 rfl (lv_at hl 0 rfl) ?_
  refine lv_iload hx hb dL_law_542 (lv_at hl 4 rfl) ?_
  refine lv_iconst (v := 1) hx hb dL_law_544 (by decide) ?_
  refine lv_iadd hx hb dL_law_545 ?_
  refine lv_topi (fun v545 e545 => ?_)
  have i545 : v545.toInt = i.toInt + 1 := zadd e545 rfl (by decide) (by omega) (by omega)
  refine va_sld hx hb hX hbl hbA hS (vp_in_iff.mpr ⟨by omega, by omega⟩) dL_law_546 ?_
  refine lv_topi (fun v546 e546 => ?_)
  refine lv_aload_n hx hb dL_law_547 rfl (lv_at hl 0 rfl) ?_
  refine lv_iload hx hb dL_law_548 (lv_at hl 4 rfl) ?_
  refine lv_iconst (v := 2) hx hb dL_law_550 (by decide) ?_
  refine lv_iadd hx hb dL_law_551 ?_
  refine lv_topi (fun v551 e551 => ?_)
  have i551 : v551.toInt = i.toInt + 2 := zadd e551 rfl (by decide) (by omega) (by omega)
  refine va_sld hx hb hX hbl hbA hS (vp_in_iff.mpr ⟨by omega, by omega⟩) dL_law_552 ?_
  refine lv_topi (fun v552 e552 => ?_)
  have hP := zRotP hP
  have hD := zRotD hD
  refine k_X11_flattery (rest := []) hcf hK3 hV hR hO hP hD hS (fun _ h => h) hl.1 (Nat.le_of_ble_eq_true rfl) (by show k + 0 ≤ 601024; omega) (by show n + 0 ≤ 7293034; omega) dL_law_553 (fun v553 Rr H locs hv2 hR hP hD hS => ?_)
  have hP := zRotP' hP
  have hD := zRotD' hD
  have ev0 : v546 = v529 := by rw [e546, e529, e545, e528]
  rw [ev0] at hv2
  have ev1 : v552 = v535 := by rw [e552, e535, e551, e534]
  rw [ev1] at hv2
  have er : v536.toInt = v553.toInt := congrArg Int32.toInt (hv1.trans hv2.symm)
  refine lv_pop hx hb dL_law_556 rfl ?_
  refine lv_goto (tgt := 1797) hx hb dL_law_557 (by decide) ?_
  refine W.widen (k := k + 3) (n := n + 300) (by omega) (by omega) ?_
  exact J _ C Rr fo H locs ls hO hC hR hP hD hS (lv_sub hl [0, 1, 2, 3, 4] rfl)
set_option maxHeartbeats 4000000 in
set_option maxRecDepth 100000 in
theorem law_case_9 {p : Program} {l : Launch} {e : Env} {s : State} {m : MethodId} {below : List Frame} {meth : Method} {c : Code} {b L : Nat} {xs : Nat → Int32} {dC : Nat → ClassId} {dI : Nat → Nat → Nat} {cI cJ cQ : ClassId} {x0 m0 o0 : Nat} (hl0 : l.stackTraces = false) (C0 : lw_At p s m meth c b L xs) (hK3 : va_K (dC, dI) vwCl [(cI, .int), (cJ, .long), (cQ, .object "NinePortraits$Law")] s) (hV : zV (fun q : Nat => s.heap.size ≤ q) s) (hG : zG (fun q : Nat => s.heap.size ≤ q) s) (hCa : zCa s) (hL : L ≤ 3584) {sg : zSy} {C Rr : va_W} {fo : Nat → Int64} {i : Int32} {H : Heap} {locs : List Loc} {ls : Array Slot} {k n : Nat} (hO : zOkG sg) (hC : zCi cI cJ cQ x0 sg C) (hR : zRi cI m0 sg Rr) (hP : va_P (dC, dI) vwCl (C ++ ((o0, .inl (cJ, 1, .inr (.inl fo))) :: Rr)) H) (hD : va_D (fun q : Nat => s.heap.size ≤ q) (C ++ ((o0, .inl (cJ, 1, .inr (.inl fo))) :: Rr))) (hS : va_S (fun q : Nat => s.heap.size ≤ q) s.heap H locs) (hl : lv_has ls 7 [(0, .ref b), (1, .ref x0), (2, .ref m0), (3, .ref o0), (4, .int i)]) (hi0 : 0 ≤ i.toInt) (hiL : i.toInt + 7 ≤ (L : Int)) (hk : k + 3 ≤ 601024) (hn : n + 300 ≤ 7293034) (J : ∀ (sg : zSy) (C Rr : va_W) (fo : Nat → Int64) (H : Heap) (locs : List Loc) (ls : Array Slot), zOkG sg → zCi cI cJ cQ x0 sg C → zRi cI m0 sg Rr → va_P (dC, dI) vwCl (C ++ ((o0, .inl (cJ, 1, .inr (.inl fo))) :: Rr)) H → va_D (fun q : Nat => s.heap.size ≤ q) (C ++ ((o0, .inl (cJ, 1, .inr (.inl fo))) :: Rr)) → va_S (fun q : Nat => s.heap.size ≤ q) s.heap H locs → lv_has ls 7 [(0, .ref b), (1, .ref x0), (2, .ref m0), (3, .ref o0), (4, .int i)] → W p l e room_1 s m #[Value.ref b] below meth c H locs (k + 3) (n + 300) (lw_Z below #[Value.ref b] s) (F0 m 1797 ls [])) : W p l e room_1 s m #[Value.ref b] below meth c H locs k n (lw_Z below #[Value.ref b] s) (F0 m 560 ls []) := by
  obtain ⟨hx, hb, hr, hml, hown, hts0, hX, hbl, hlocks, hgv⟩ := id C0
  have hts : ∀ w ∈ wA, w.before #[Value.ref b] s = true := fun w h => hts0 w (List.mem_filter.mp h).1
  have hown : s.vm.findClass RL = some m.cls := hown
  have hcf : CallFix p m c code 7 s #[Value.ref b] wA RL := ⟨hx, hb, hml, hown, hts⟩
  have hbA : ¬ (fun q : Nat => s.heap.size ≤ q) b := Nat.not_le.mpr hbl
  refine lv_aload_n hx hb dL_law_560 rfl (lv_at hl 1 rfl) ?_
  refine lv_aload_n hx hb dL_law_561 rfl (lv_at hl 0 rfl) ?_
  refine lv_iload hx hb dL_law_562 (lv_at hl 4 rfl) ?_
  refine lv_iconst (v := 1) hx hb dL_law_564 (by decide) ?_
  refine lv_iadd hx hb dL_law_565 ?_
  refine lv_topi (fun v565 e565 => ?_)
  have i565 : v565.toInt = i.toInt + 1 := zadd e565 rfl (by decide) (by omega) (by omega)
  refine va_sld hx hb hX hbl hbA hS (vp_in_iff.mpr ⟨by omega, by omega⟩) dL_law_566 ?_
  refine lv_topi (fun v566 e566 => ?_)
  refine lv_aload_n hx hb dL_law_567 rfl (lv_at hl 0 rfl) ?_
  refine lv_iload hx hb dL_law_568 (lv_at hl 4 rfl) ?_
  refine lv_iconst (v := 2) hx hb dL_law_570 (by decide) ?_
  refine lv_iadd hx hb dL_law_571 ?_
  refine lv_topi (fun v571 e571 => ?_)
  have i571 : v571.toInt = i.toInt + 2 := zadd e571 rfl (by decide) (by omega) (by omega)
  refine va_sld hx hb hX hbl hbA hS (vp_in_iff.mpr ⟨by omega, by omega⟩) dL_law_572 ?_
  refine lv_topi (fun v572 e572 => ?_)
  refine lv_aload_n hx hb dL_law_573 rfl (lv_at hl 0 rfl) ?_
  refine lv_iload hx hb dL_law_574 (lv_at hl 4 rfl) ?_
  refine lv_iconst (v := 3) hx hb dL_law_576 (by decide) ?_
  refine lv_iadd hx hb dL_law_577 ?_
  refine lv_topi (fun v577 e577 => ?_)
  have i577 : v577.toInt = i.toInt + 3 := zadd e577 rfl (by decide) (by omega) (by omega)
  refine va_sld hx hb hX hbl hbA hS (vp_in_iff.mpr ⟨by omega, by omega⟩) dL_law_578 ?_
  refine lv_topi (fun v578 e578 => ?_)
  refine k_X10_shown (rest := []) hcf hK3 hV hC hO hP hD hS (fun _ h => h) hl.1 (Nat.le_of_ble_eq_true rfl) (by show k + 0 ≤ 601024; omega) (by show n + 0 ≤ 7293034; omega) dL_law_579 (fun v579 C H locs hv1 hC hP hD hS => ?_)
  refine lv_pop hx hb dL_law_582 rfl ?_
  refine lv_aload_n hx hb dL_law_583 rfl (lv_at hl 2 rfl) ?_
  refine lv_aload_n hx hb dL_law_584 rfl (lv_at hl 0 rfl) ?_
  refine lv_iload hx hb dL_law_585 (lv_at hl 4 rfl) ?_
  refine lv_iconst (v := 1) hx hb dL_law_587 (by decide) ?_
  refine lv_iadd hx hb dL_law_588 ?_
  refine lv_topi (fun v588 e588 => ?_)
  have i588 : v588.toInt = i.toInt + 1 := zadd e588 rfl (by decide) (by omega) (by omega)
  refine va_sld hx hb hX hbl hbA hS (vp_in_iff.mpr ⟨by omega, by omega⟩) dL_law_589 ?_
  refine lv_topi (fun v589 e589 => ?_)
  refine lv_aload_n hx hb dL_law_590 rfl (lv_at hl 0 rfl) ?_
  refine lv_iload hx hb dL_law_591 (lv_at hl 4 rfl) ?_
  refine lv_iconst (v := 2) hx hb dL_law_593 (by decide) ?_
  refine lv_iadd hx hb dL_law_594 ?_
  refine lv_topi (fun v594 e594 => ?_)
  have i594 : v594.toInt = i.toInt + 2 := zadd e594 rfl (by decide) (by omega) (by omega)
  refine va_sld hx hb hX hbl hbA hS (vp_in_iff.mpr ⟨by omega, by omega⟩) dL_law_595 ?_
  refine lv_topi (fun v595 e595 => ?_)
  refine lv_aload_n hx hb dL_law_596 rfl (lv_at hl 0 rfl) ?_
  refine lv_iload hx hb dL_law_597 (lv_at hl 4 rfl) ?_
  refine lv_iconst (v := 3) hx hb dL_law_599 (by decide) ?_
  refine lv_iadd hx hb dL_law_600 ?_
  refine lv_topi (fun v600 e600 => ?_)
  have i600 : v600.toInt = i.toInt + 3 := zadd e600 rfl (by decide) (by omega) (by omega)
  refine va_sld hx hb hX hbl hbA hS (vp_in_iff.mpr ⟨by omega, by omega⟩) dL_law_601 ?_
  refine lv_topi (fun v601 e601 => ?_)
  have hP := zRotP hP
  have hD := zRotD hD
  refine k_X11_shown (rest := []) hcf hK3 hV hR hO hP hD hS (fun _ h => h) hl.1 (Nat.le_of_ble_eq_true rfl) (by show k + 0 ≤ 601024; omega) (by show n + 0 ≤ 7293034; omega) dL_law_602 (fun v602 Rr H locs hv2 hR hP hD hS => ?_)
  have hP := zRotP' hP
  have hD := zRotD' hD
  have ev0 : v589 = v566 := by rw [e589, e566, e588, e565]
  rw [ev0] at hv2
  have ev1 : v595 = v572 := by rw [e595, e572, e594, e571]
  rw [ev1] at hv2
  have ev2 : v601 = v578 := by rw [e601, e578, e600, e577]
  rw [ev2] at hv2
  have er : v579.toInt = v602.toInt := congrArg Int32.toInt (hv1.trans hv2.symm)
  refine lv_pop hx hb dL_law_605 rfl ?_
  refine lv_goto (tgt := 1797) hx hb dL_law_606 (by decide) ?_
  refine W.widen (k := k + 3) (n := n + 300) (by omega) (by omega) ?_
  exact J _ C Rr fo H locs ls hO hC hR hP hD hS (lv_sub hl [0, 1, 2, 3, 4] rfl)
set_option maxHeartbeats 4000000 in
set_option maxRecDepth 100000 in
theorem law_case_10 {p : Program} {l : Launch} {e : Env} {s : State} {m : MethodId} {below : List Frame} {meth : Method} {c : Code} {b L : Nat} {xs : Nat → Int32} {dC : Nat → ClassId} {dI : Nat → Nat → Nat} {cI cJ cQ : ClassId} {x0 m0 o0 : Nat} (hl0 : l.stackTraces = false) (C0 : lw_At p s m meth c b L xs) (hK3 : va_K (dC, dI) vwCl [(cI, .int), (cJ, .long), (cQ, .object "NinePortraits$Law")] s) (hV : zV (fun q : Nat => s.heap.size ≤ q) s) (hG : zG (fun q : Nat => s.heap.size ≤ q) s) (hCa : zCa s) (hL : L ≤ 3584) {sg : zSy} {C Rr : va_W} {fo : Nat → Int64} {i : Int32} {H : Heap} {locs : List Loc} {ls : Array Slot} {k n : Nat} (hO : zOkG sg) (hC : zCi cI cJ cQ x0 sg C) (hR : zRi cI m0 sg Rr) (hP : va_P (dC, dI) vwCl (C ++ ((o0, .inl (cJ, 1, .inr (.inl fo))) :: Rr)) H) (hD : va_D (fun q : Nat => s.heap.size ≤ q) (C ++ ((o0, .inl (cJ, 1, .inr (.inl fo))) :: Rr))) (hS : va_S (fun q : Nat => s.heap.size ≤ q) s.heap H locs) (hl : lv_has ls 7 [(0, .ref b), (1, .ref x0), (2, .ref m0), (3, .ref o0), (4, .int i)]) (hi0 : 0 ≤ i.toInt) (hiL : i.toInt + 7 ≤ (L : Int)) (hk : k + 3 ≤ 601024) (hn : n + 300 ≤ 7293034) (J : ∀ (sg : zSy) (C Rr : va_W) (fo : Nat → Int64) (H : Heap) (locs : List Loc) (ls : Array Slot), zOkG sg → zCi cI cJ cQ x0 sg C → zRi cI m0 sg Rr → va_P (dC, dI) vwCl (C ++ ((o0, .inl (cJ, 1, .inr (.inl fo))) :: Rr)) H → va_D (fun q : Nat => s.heap.size ≤ q) (C ++ ((o0, .inl (cJ, 1, .inr (.inl fo))) :: Rr)) → va_S (fun q : Nat => s.heap.size ≤ q) s.heap H locs → lv_has ls 7 [(0, .ref b), (1, .ref x0), (2, .ref m0), (3, .ref o0), (4, .int i)] → W p l e room_1 s m #[Value.ref b] below meth c H locs (k + 3) (n + 300) (lw_Z below #[Value.ref b] s) (F0 m 1797 ls [])) : W p l e room_1 s m #[Value.ref b] below meth c H locs k n (lw_Z below #[Value.ref b] s) (F0 m 609 ls []) := by
  obtain ⟨hx, hb, hr, hml, hown, hts0, hX, hbl, hlocks, hgv⟩ := id C0
  have hts : ∀ w ∈ wA, w.before #[Value.ref b] s = true := fun w h => hts0 w (List.mem_filter.mp h).1
  have hown : s.vm.findClass RL = some m.cls := hown
  have hcf : CallFix p m c code 7 s #[Value.ref b] wA RL := ⟨hx, hb, hml, hown, hts⟩
  have hbA : ¬ (fun q : Nat => s.heap.size ≤ q) b := Nat.not_le.mpr hbl
  refine lv_aload_n hx hb dL_law_609 rfl (lv_at hl 1 rfl) ?_
  refine lv_aload_n hx hb dL_law_610 rfl (lv_at hl 0 rfl) ?_
  refine lv_iload hx hb dL_law_611 (lv_at hl 4 rfl) ?_
  refine lv_iconst (v := 1) hx hb dL_law_613 (by decide) ?_
  refine lv_iadd hx hb dL_law_614 ?_
  refine lv_topi (fun v614 e614 => ?_)
  have i614 : v614.toInt = i.toInt + 1 := zadd e614 rfl (by decide) (by omega) (by omega)
  refine va_sld hx hb hX hbl hbA hS (vp_in_iff.mpr ⟨by omega, by omega⟩) dL_law_615 ?_
  refine lv_topi (fun v615 e615 => ?_)
  refine lv_aload_n hx hb dL_law_616 rfl (lv_at hl 0 rfl) ?_
  refine lv_iload hx hb dL_law_617 (lv_at hl 4 rfl) ?_
  refine lv_iconst (v := 2) hx hb dL_law_619 (by decide) ?_
  refine lv_iadd hx hb dL_law_620 ?_
  refine lv_topi (fun v620 e620 => ?_)
  have i620 : v620.toInt = i.toInt + 2 := zadd e620 rfl (by decide) (by omega) (by omega)
  refine va_sld hx hb hX hbl hbA hS (vp_in_iff.mpr ⟨by omega, by omega⟩) dL_law_621 ?_
  refine lv_topi (fun v621 e621 => ?_)
  refine k_X10_paint (rest := []) hcf hK3 hV hC hO hP hD hS (fun _ h => h) hl.1 (Nat.le_of_ble_eq_true rfl) (by show k + 0 ≤ 601024; omega) (by show n + 0 ≤ 7293034; omega) dL_law_622 (fun v622 C H locs hv1 hC hP hD hS => ?_)
  refine lv_pop hx hb dL_law_625 rfl ?_
  refine lv_aload_n hx hb dL_law_626 rfl (lv_at hl 2 rfl) ?_
  refine lv_aload_n hx hb dL_law_627 rfl (lv_at hl 0 rfl) ?_
  refine lv_iload hx hb dL_law_628 (lv_at hl 4 rfl) ?_
  refine lv_iconst (v := 1) hx hb dL_law_630 (by decide) ?_
  refine lv_iadd hx hb dL_law_631 ?_
  refine lv_topi (fun v631 e631 => ?_)
  have i631 : v631.toInt = i.toInt + 1 := zadd e631 rfl (by decide) (by omega) (by omega)
  refine va_sld hx hb hX hbl hbA hS (vp_in_iff.mpr ⟨by omega, by omega⟩) dL_law_632 ?_
  refine lv_topi (fun v632 e632 => ?_)
  refine lv_aload_n hx hb dL_law_633 rfl (lv_at hl 0 rfl) ?_
  refine lv_iload hx hb dL_law_634 (lv_at hl 4 rfl) ?_
  refine lv_iconst (v := 2) hx hb dL_law_636 (by decide) ?_
  refine lv_iadd hx hb dL_law_637 ?_
  refine lv_topi (fun v637 e637 => ?_)
  have i637 : v637.toInt = i.toInt + 2 := zadd e637 rfl (by decide) (by omega) (by omega)
  refine va_sld hx hb hX hbl hbA hS (vp_in_iff.mpr ⟨by omega, by omega⟩) dL_law_638 ?_
  refine lv_topi (fun v638 e638 => ?_)
  have hP := zRotP hP
  have hD := zRotD hD
  refine k_X11_paint (rest := []) hcf hK3 hV hR hO hP hD hS (fun _ h => h) hl.1 (Nat.le_of_ble_eq_true rfl) (by show k + 0 ≤ 601024; omega) (by show n + 0 ≤ 7293034; omega) dL_law_639 (fun v639 Rr H locs hv2 hR hP hD hS => ?_)
  have hP := zRotP' hP
  have hD := zRotD' hD
  have ev0 : v632 = v615 := by rw [e632, e615, e631, e614]
  rw [ev0] at hv2 hR
  have ev1 : v638 = v621 := by rw [e638, e621, e637, e620]
  rw [ev1] at hv2 hR
  have er : v622.toInt = v639.toInt := congrArg Int32.toInt (hv1.trans hv2.symm)
  have hO : zOkG (sg.1, sg.2.1, sg.2.2.1, sg.2.2.2.1, sg.2.2.2.2.1, sDo (sW_pnt sg.2.2.2.1.1.toInt sg.2.2.2.1.2.1.toInt sg.2.2.2.1.2.2 sg.2.2.2.2.2.1.1 v615 v621) sg.2.2.2.2.2.1 (sN_pnt sg.2.2.2.1.2.2 sg.2.2.2.2.2.1.1 (zHo1 sg.2.2.2.2.1) v615 v621), sg.2.2.2.2.2.2) := ⟨ok_pnt hO.1, hO.2⟩
  refine lv_pop hx hb dL_law_642 rfl ?_
  refine lv_goto (tgt := 1797) hx hb dL_law_643 (by decide) ?_
  refine W.widen (k := k + 3) (n := n + 300) (by omega) (by omega) ?_
  exact J _ C Rr fo H locs ls hO hC hR hP hD hS (lv_sub hl [0, 1, 2, 3, 4] rfl)
set_option maxHeartbeats 4000000 in
set_option maxRecDepth 100000 in
theorem law_case_11 {p : Program} {l : Launch} {e : Env} {s : State} {m : MethodId} {below : List Frame} {meth : Method} {c : Code} {b L : Nat} {xs : Nat → Int32} {dC : Nat → ClassId} {dI : Nat → Nat → Nat} {cI cJ cQ : ClassId} {x0 m0 o0 : Nat} (hl0 : l.stackTraces = false) (C0 : lw_At p s m meth c b L xs) (hK3 : va_K (dC, dI) vwCl [(cI, .int), (cJ, .long), (cQ, .object "NinePortraits$Law")] s) (hV : zV (fun q : Nat => s.heap.size ≤ q) s) (hG : zG (fun q : Nat => s.heap.size ≤ q) s) (hCa : zCa s) (hL : L ≤ 3584) {sg : zSy} {C Rr : va_W} {fo : Nat → Int64} {i : Int32} {H : Heap} {locs : List Loc} {ls : Array Slot} {k n : Nat} (hO : zOkG sg) (hC : zCi cI cJ cQ x0 sg C) (hR : zRi cI m0 sg Rr) (hP : va_P (dC, dI) vwCl (C ++ ((o0, .inl (cJ, 1, .inr (.inl fo))) :: Rr)) H) (hD : va_D (fun q : Nat => s.heap.size ≤ q) (C ++ ((o0, .inl (cJ, 1, .inr (.inl fo))) :: Rr))) (hS : va_S (fun q : Nat => s.heap.size ≤ q) s.heap H locs) (hl : lv_has ls 7 [(0, .ref b), (1, .ref x0), (2, .ref m0), (3, .ref o0), (4, .int i)]) (hi0 : 0 ≤ i.toInt) (hiL : i.toInt + 7 ≤ (L : Int)) (hk : k + 3 ≤ 601024) (hn : n + 300 ≤ 7293034) (J : ∀ (sg : zSy) (C Rr : va_W) (fo : Nat → Int64) (H : Heap) (locs : List Loc) (ls : Array Slot), zOkG sg → zCi cI cJ cQ x0 sg C → zRi cI m0 sg Rr → va_P (dC, dI) vwCl (C ++ ((o0, .inl (cJ, 1, .inr (.inl fo))) :: Rr)) H → va_D (fun q : Nat => s.heap.size ≤ q) (C ++ ((o0, .inl (cJ, 1, .inr (.inl fo))) :: Rr)) → va_S (fun q : Nat => s.heap.size ≤ q) s.heap H locs → lv_has ls 7 [(0, .ref b), (1, .ref x0), (2, .ref m0), (3, .ref o0), (4, .int i)] → W p l e room_1 s m #[Value.ref b] below meth c H locs (k + 3) (n + 300) (lw_Z below #[Value.ref b] s) (F0 m 1797 ls [])) : W p l e room_1 s m #[Value.ref b] below meth c H locs k n (lw_Z below #[Value.ref b] s) (F0 m 646 ls []) := by
  obtain ⟨hx, hb, hr, hml, hown, hts0, hX, hbl, hlocks, hgv⟩ := id C0
  have hts : ∀ w ∈ wA, w.before #[Value.ref b] s = true := fun w h => hts0 w (List.mem_filter.mp h).1
  have hown : s.vm.findClass RL = some m.cls := hown
  have hcf : CallFix p m c code 7 s #[Value.ref b] wA RL := ⟨hx, hb, hml, hown, hts⟩
  have hbA : ¬ (fun q : Nat => s.heap.size ≤ q) b := Nat.not_le.mpr hbl
  refine lv_aload_n hx hb dL_law_646 rfl (lv_at hl 1 rfl) ?_
  refine lv_aload_n hx hb dL_law_647 rfl (lv_at hl 0 rfl) ?_
  refine lv_iload hx hb dL_law_648 (lv_at hl 4 rfl) ?_
  refine lv_iconst (v := 1) hx hb dL_law_650 (by decide) ?_
  refine lv_iadd hx hb dL_law_651 ?_
  refine lv_topi (fun v651 e651 => ?_)
  have i651 : v651.toInt = i.toInt + 1 := zadd e651 rfl (by decide) (by omega) (by omega)
  refine va_sld hx hb hX hbl hbA hS (vp_in_iff.mpr ⟨by omega, by omega⟩) dL_law_652 ?_
  refine lv_topi (fun v652 e652 => ?_)
  refine lv_aload_n hx hb dL_law_653 rfl (lv_at hl 0 rfl) ?_
  refine lv_iload hx hb dL_law_654 (lv_at hl 4 rfl) ?_
  refine lv_iconst (v := 2) hx hb dL_law_656 (by decide) ?_
  refine lv_iadd hx hb dL_law_657 ?_
  refine lv_topi (fun v657 e657 => ?_)
  have i657 : v657.toInt = i.toInt + 2 := zadd e657 rfl (by decide) (by omega) (by omega)
  refine va_sld hx hb hX hbl hbA hS (vp_in_iff.mpr ⟨by omega, by omega⟩) dL_law_658 ?_
  refine lv_topi (fun v658 e658 => ?_)
  refine k_X10_pay (rest := []) hcf hK3 hV hC hO hP hD hS (fun _ h => h) hl.1 (Nat.le_of_ble_eq_true rfl) (by show k + 0 ≤ 601024; omega) (by show n + 0 ≤ 7293034; omega) dL_law_659 (fun v659 C H locs hv1 hC hP hD hS => ?_)
  refine lv_pop hx hb dL_law_662 rfl ?_
  refine lv_aload_n hx hb dL_law_663 rfl (lv_at hl 2 rfl) ?_
  refine lv_aload_n hx hb dL_law_664 rfl (lv_at hl 0 rfl) ?_
  refine lv_iload hx hb dL_law_665 (lv_at hl 4 rfl) ?_
  refine lv_iconst (v := 1) hx hb dL_law_667 (by decide) ?_
  refine lv_iadd hx hb dL_law_668 ?_
  refine lv_topi (fun v668 e668 => ?_)
  have i668 : v668.toInt = i.toInt + 1 := zadd e668 rfl (by decide) (by omega) (by omega)
  refine va_sld hx hb hX hbl hbA hS (vp_in_iff.mpr ⟨by omega, by omega⟩) dL_law_669 ?_
  refine lv_topi (fun v669 e669 => ?_)
  refine lv_aload_n hx hb dL_law_670 rfl (lv_at hl 0 rfl) ?_
  refine lv_iload hx hb dL_law_671 (lv_at hl 4 rfl) ?_
  refine lv_iconst (v := 2) hx hb dL_law_673 (by decide) ?_
  refine lv_iadd hx hb dL_law_674 ?_
  refine lv_topi (fun v674 e674 => ?_)
  have i674 : v674.toInt = i.toInt + 2 := zadd e674 rfl (by decide) (by omega) (by omega)
  refine va_sld hx hb hX hbl hbA hS (vp_in_iff.mpr ⟨by omega, by omega⟩) dL_law_675 ?_
  refine lv_topi (fun v675 e675 => ?_)
  have hP := zRotP hP
  have hD := zRotD hD
  refine k_X11_pay (rest := []) hcf hK3 hV hR hO hP hD hS (fun _ h => h) hl.1 (Nat.le_of_ble_eq_true rfl) (by show k + 0 ≤ 601024; omega) (by show n + 0 ≤ 7293034; omega) dL_law_676 (fun v676 Rr H locs hv2 hR hP hD hS => ?_)
  have hP := zRotP' hP
  have hD := zRotD' hD
  have ev0 : v669 = v652 := by rw [e669, e652, e668, e651]
  rw [ev0] at hv2 hR
  have ev1 : v675 = v658 := by rw [e675, e658, e674, e657]
  rw [ev1] at hv2 hR
  have er : v659.toInt = v676.toInt := congrArg Int32.toInt (hv1.trans hv2.symm)
  have hO : zOkG (sg.1, sg.2.1, sg.2.2.1, sg.2.2.2.1, sg.2.2.2.2.1, sDo (sW_pay sg.2.2.2.1.1.toInt sg.2.2.2.2.2.1.1 v652 v658) sg.2.2.2.2.2.1 (sSetY sg.2.2.2.2.2.1.1 v652.toInt.toNat (sg.2.2.2.2.2.1.1.1 v652.toInt.toNat + v658)), sg.2.2.2.2.2.2) := ⟨ok_pay hO.1, hO.2⟩
  refine lv_pop hx hb dL_law_679 rfl ?_
  refine lv_goto (tgt := 1797) hx hb dL_law_680 (by decide) ?_
  refine W.widen (k := k + 3) (n := n + 300) (by omega) (by omega) ?_
  exact J _ C Rr fo H locs ls hO hC hR hP hD hS (lv_sub hl [0, 1, 2, 3, 4] rfl)
set_option maxHeartbeats 4000000 in
set_option maxRecDepth 100000 in
theorem law_case_12 {p : Program} {l : Launch} {e : Env} {s : State} {m : MethodId} {below : List Frame} {meth : Method} {c : Code} {b L : Nat} {xs : Nat → Int32} {dC : Nat → ClassId} {dI : Nat → Nat → Nat} {cI cJ cQ : ClassId} {x0 m0 o0 : Nat} (hl0 : l.stackTraces = false) (C0 : lw_At p s m meth c b L xs) (hK3 : va_K (dC, dI) vwCl [(cI, .int), (cJ, .long), (cQ, .object "NinePortraits$Law")] s) (hV : zV (fun q : Nat => s.heap.size ≤ q) s) (hG : zG (fun q : Nat => s.heap.size ≤ q) s) (hCa : zCa s) (hL : L ≤ 3584) {sg : zSy} {C Rr : va_W} {fo : Nat → Int64} {i : Int32} {H : Heap} {locs : List Loc} {ls : Array Slot} {k n : Nat} (hO : zOkG sg) (hC : zCi cI cJ cQ x0 sg C) (hR : zRi cI m0 sg Rr) (hP : va_P (dC, dI) vwCl (C ++ ((o0, .inl (cJ, 1, .inr (.inl fo))) :: Rr)) H) (hD : va_D (fun q : Nat => s.heap.size ≤ q) (C ++ ((o0, .inl (cJ, 1, .inr (.inl fo))) :: Rr))) (hS : va_S (fun q : Nat => s.heap.size ≤ q) s.heap H locs) (hl : lv_has ls 7 [(0, .ref b), (1, .ref x0), (2, .ref m0), (3, .ref o0), (4, .int i)]) (hi0 : 0 ≤ i.toInt) (hiL : i.toInt + 7 ≤ (L : Int)) (hk : k + 3 ≤ 601024) (hn : n + 300 ≤ 7293034) (J : ∀ (sg : zSy) (C Rr : va_W) (fo : Nat → Int64) (H : Heap) (locs : List Loc) (ls : Array Slot), zOkG sg → zCi cI cJ cQ x0 sg C → zRi cI m0 sg Rr → va_P (dC, dI) vwCl (C ++ ((o0, .inl (cJ, 1, .inr (.inl fo))) :: Rr)) H → va_D (fun q : Nat => s.heap.size ≤ q) (C ++ ((o0, .inl (cJ, 1, .inr (.inl fo))) :: Rr)) → va_S (fun q : Nat => s.heap.size ≤ q) s.heap H locs → lv_has ls 7 [(0, .ref b), (1, .ref x0), (2, .ref m0), (3, .ref o0), (4, .int i)] → W p l e room_1 s m #[Value.ref b] below meth c H locs (k + 3) (n + 300) (lw_Z below #[Value.ref b] s) (F0 m 1797 ls [])) : W p l e room_1 s m #[Value.ref b] below meth c H locs k n (lw_Z below #[Value.ref b] s) (F0 m 683 ls []) := by
  obtain ⟨hx, hb, hr, hml, hown, hts0, hX, hbl, hlocks, hgv⟩ := id C0
  have hts : ∀ w ∈ wA, w.before #[Value.ref b] s = true := fun w h => hts0 w (List.mem_filter.mp h).1
  have hown : s.vm.findClass RL = some m.cls := hown
  have hcf : CallFix p m c code 7 s #[Value.ref b] wA RL := ⟨hx, hb, hml, hown, hts⟩
  have hbA : ¬ (fun q : Nat => s.heap.size ≤ q) b := Nat.not_le.mpr hbl
  refine lv_aload_n hx hb dL_law_683 rfl (lv_at hl 1 rfl) ?_
  refine lv_aload_n hx hb dL_law_684 rfl (lv_at hl 0 rfl) ?_
  refine lv_iload hx hb dL_law_685 (lv_at hl 4 rfl) ?_
  refine lv_iconst (v := 1) hx hb dL_law_687 (by decide) ?_
  refine lv_iadd hx hb dL_law_688 ?_
  refine lv_topi (fun v688 e688 => ?_)
  have i688 : v688.toInt = i.toInt + 1 := zadd e688 rfl (by decide) (by omega) (by omega)
  refine va_sld hx hb hX hbl hbA hS (vp_in_iff.mpr ⟨by omega, by omega⟩) dL_law_689 ?_
  refine lv_topi (fun v689 e689 => ?_)
  refine k_X10_threaten (rest := []) hcf hK3 hV hC hO hP hD hS (fun _ h => h) hl.1 (Nat.le_of_ble_eq_true rfl) (by show k + 0 ≤ 601024; omega) (by show n + 0 ≤ 7293034; omega) dL_law_690 (fun v690 C H locs hv1 hC hP hD hS => ?_)
  refine lv_pop hx hb dL_law_693 rfl ?_
  refine lv_aload_n hx hb dL_law_694 rfl (lv_at hl 2 rfl) ?_
  refine lv_aload_n hx hb dL_law_695 rfl (lv_at hl 0 rfl) ?_
  refine lv_iload hx hb dL_law_696 (lv_at hl 4 rfl) ?_
  refine lv_iconst (v := 1) hx hb dL_law_698 (by decide) ?_
  refine lv_iadd hx hb dL_law_699 ?_
  refine lv_topi (fun v699 e699 => ?_)
  have i699 : v699.toInt = i.toInt + 1 := zadd e699 rfl (by decide) (by omega) (by omega)
  refine va_sld hx hb hX hbl hbA hS (vp_in_iff.mpr ⟨by omega, by omega⟩) dL_law_700 ?_
  refine lv_topi (fun v700 e700 => ?_)
  have hP := zRotP hP
  have hD := zRotD hD
  refine k_X11_threaten (rest := []) hcf hK3 hV hR hO hP hD hS (fun _ h => h) hl.1 (Nat.le_of_ble_eq_true rfl) (by show k + 0 ≤ 601024; omega) (by show n + 0 ≤ 7293034; omega) dL_law_701 (fun v701 Rr H locs hv2 hR hP hD hS => ?_)
  have hP := zRotP' hP
  have hD := zRotD' hD
  have ev0 : v700 = v689 := by rw [e700, e689, e699, e688]
  rw [ev0] at hv2 hR
  have er : v690.toInt = v701.toInt := congrArg Int32.toInt (hv1.trans hv2.symm)
  have hO : zOkG (sg.1, sg.2.1, sg.2.2.1, sg.2.2.2.1, sg.2.2.2.2.1, sDo (sW_thr sg.2.2.2.1.2.1.toInt sg.2.2.2.2.2.1.1 v689) sg.2.2.2.2.2.1 (sSetF sg.2.2.2.2.2.1.1 v689.toInt.toNat (sg.2.2.2.2.2.1.1.2.1 v689.toInt.toNat + 1)), sg.2.2.2.2.2.2) := ⟨ok_thr hO.1, hO.2⟩
  refine lv_pop hx hb dL_law_704 rfl ?_
  refine lv_goto (tgt := 1797) hx hb dL_law_705 (by decide) ?_
  refine W.widen (k := k + 3) (n := n + 300) (by omega) (by omega) ?_
  exact J _ C Rr fo H locs ls hO hC hR hP hD hS (lv_sub hl [0, 1, 2, 3, 4] rfl)
set_option maxHeartbeats 4000000 in
set_option maxRecDepth 100000 in
theorem law_case_13 {p : Program} {l : Launch} {e : Env} {s : State} {m : MethodId} {below : List Frame} {meth : Method} {c : Code} {b L : Nat} {xs : Nat → Int32} {dC : Nat → ClassId} {dI : Nat → Nat → Nat} {cI cJ cQ : ClassId} {x0 m0 o0 : Nat} (hl0 : l.stackTraces = false) (C0 : lw_At p s m meth c b L xs) (hK3 : va_K (dC, dI) vwCl [(cI, .int), (cJ, .long), (cQ, .object "NinePortraits$Law")] s) (hV : zV (fun q : Nat => s.heap.size ≤ q) s) (hG : zG (fun q : Nat => s.heap.size ≤ q) s) (hCa : zCa s) (hL : L ≤ 3584) {sg : zSy} {C Rr : va_W} {fo : Nat → Int64} {i : Int32} {H : Heap} {locs : List Loc} {ls : Array Slot} {k n : Nat} (hO : zOkG sg) (hC : zCi cI cJ cQ x0 sg C) (hR : zRi cI m0 sg Rr) (hP : va_P (dC, dI) vwCl (C ++ ((o0, .inl (cJ, 1, .inr (.inl fo))) :: Rr)) H) (hD : va_D (fun q : Nat => s.heap.size ≤ q) (C ++ ((o0, .inl (cJ, 1, .inr (.inl fo))) :: Rr))) (hS : va_S (fun q : Nat => s.heap.size ≤ q) s.heap H locs) (hl : lv_has ls 7 [(0, .ref b), (1, .ref x0), (2, .ref m0), (3, .ref o0), (4, .int i)]) (hi0 : 0 ≤ i.toInt) (hiL : i.toInt + 7 ≤ (L : Int)) (hk : k + 3 ≤ 601024) (hn : n + 300 ≤ 7293034) (J : ∀ (sg : zSy) (C Rr : va_W) (fo : Nat → Int64) (H : Heap) (locs : List Loc) (ls : Array Slot), zOkG sg → zCi cI cJ cQ x0 sg C → zRi cI m0 sg Rr → va_P (dC, dI) vwCl (C ++ ((o0, .inl (cJ, 1, .inr (.inl fo))) :: Rr)) H → va_D (fun q : Nat => s.heap.size ≤ q) (C ++ ((o0, .inl (cJ, 1, .inr (.inl fo))) :: Rr)) → va_S (fun q : Nat => s.heap.size ≤ q) s.heap H locs → lv_has ls 7 [(0, .ref b), (1, .ref x0), (2, .ref m0), (3, .ref o0), (4, .int i)] → W p l e room_1 s m #[Value.ref b] below meth c H locs (k + 3) (n + 300) (lw_Z below #[Value.ref b] s) (F0 m 1797 ls [])) : W p l e room_1 s m #[Value.ref b] below meth c H locs k n (lw_Z below #[Value.ref b] s) (F0 m 708 ls []) := by
  obtain ⟨hx, hb, hr, hml, hown, hts0, hX, hbl, hlocks, hgv⟩ := id C0
  have hts : ∀ w ∈ wA, w.before #[Value.ref b] s = true := fun w h => hts0 w (List.mem_filter.mp h).1
  have hown : s.vm.findClass RL = some m.cls := hown
  have hcf : CallFix p m c code 7 s #[Value.ref b] wA RL := ⟨hx, hb, hml, hown, hts⟩
  have hbA : ¬ (fun q : Nat => s.heap.size ≤ q) b := Nat.not_le.mpr hbl
  refine lv_aload_n hx hb dL_law_708 rfl (lv_at hl 1 rfl) ?_
  refine lv_aload_n hx hb dL_law_709 rfl (lv_at hl 0 rfl) ?_
  refine lv_iload hx hb dL_law_710 (lv_at hl 4 rfl) ?_
  refine lv_iconst (v := 1) hx hb dL_law_712 (by decide) ?_
  refine lv_iadd hx hb dL_law_713 ?_
  refine lv_topi (fun v713 e713 => ?_)
  have i713 : v713.toInt = i.toInt + 1 := zadd e713 rfl (by decide) (by omega) (by omega)
  refine va_sld hx hb hX hbl hbA hS (vp_in_iff.mpr ⟨by omega, by omega⟩) dL_law_714 ?_
  refine lv_topi (fun v714 e714 => ?_)
  refine k_X10_letter (rest := []) hcf hK3 hV hC hO hP hD hS (fun _ h => h) hl.1 (Nat.le_of_ble_eq_true rfl) (by show k + 0 ≤ 601024; omega) (by show n + 0 ≤ 7293034; omega) dL_law_715 (fun v715 C H locs hv1 hC hP hD hS => ?_)
  refine lv_pop hx hb dL_law_718 rfl ?_
  refine lv_aload_n hx hb dL_law_719 rfl (lv_at hl 2 rfl) ?_
  refine lv_aload_n hx hb dL_law_720 rfl (lv_at hl 0 rfl) ?_
  refine lv_iload hx hb dL_law_721 (lv_at hl 4 rfl) ?_
  refine lv_iconst (v := 1) hx hb dL_law_723 (by decide) ?_
  refine lv_iadd hx hb dL_law_724 ?_
  refine lv_topi (fun v724 e724 => ?_)
  have i724 : v724.toInt = i.toInt + 1 := zadd e724 rfl (by decide) (by omega) (by omega)
  refine va_sld hx hb hX hbl hbA hS (vp_in_iff.mpr ⟨by omega, by omega⟩) dL_law_725 ?_
  refine lv_topi (fun v725 e725 => ?_)
  have hP := zRotP hP
  have hD := zRotD hD
  refine k_X11_letter (rest := []) hcf hK3 hV hR hO hP hD hS (fun _ h => h) hl.1 (Nat.le_of_ble_eq_true rfl) (by show k + 0 ≤ 601024; omega) (by show n + 0 ≤ 7293034; omega) dL_law_726 (fun v726 Rr H locs hv2 hR hP hD hS => ?_)
  have hP := zRotP' hP
  have hD := zRotD' hD
  have ev0 : v725 = v714 := by rw [e725, e714, e724, e713]
  rw [ev0] at hv2 hR
  have er : v715.toInt = v726.toInt := congrArg Int32.toInt (hv1.trans hv2.symm)
  have hO : zOkG (sg.1, sg.2.1, sg.2.2.1, sg.2.2.2.1, sg.2.2.2.2.1, sDo (sW_tld sg.2.2.2.1.1.toInt sg.2.2.2.2.2.1.1 sg.2.2.2.2.2.1.1.2.2.1.1 v714 2) sg.2.2.2.2.2.1 (sN_ltr sg.2.2.2.2.2.1.1 v714), sg.2.2.2.2.2.2) := ⟨ok_ltr hO.1, hO.2⟩
  refine lv_pop hx hb dL_law_729 rfl ?_
  refine lv_goto (tgt := 1797) hx hb dL_law_730 (by decide) ?_
  refine W.widen (k := k + 3) (n := n + 300) (by omega) (by omega) ?_
  exact J _ C Rr fo H locs ls hO hC hR hP hD hS (lv_sub hl [0, 1, 2, 3, 4] rfl)
set_option maxHeartbeats 4000000 in
set_option maxRecDepth 100000 in
theorem law_case_14 {p : Program} {l : Launch} {e : Env} {s : State} {m : MethodId} {below : List Frame} {meth : Method} {c : Code} {b L : Nat} {xs : Nat → Int32} {dC : Nat → ClassId} {dI : Nat → Nat → Nat} {cI cJ cQ : ClassId} {x0 m0 o0 : Nat} (hl0 : l.stackTraces = false) (C0 : lw_At p s m meth c b L xs) (hK3 : va_K (dC, dI) vwCl [(cI, .int), (cJ, .long), (cQ, .object "NinePortraits$Law")] s) (hV : zV (fun q : Nat => s.heap.size ≤ q) s) (hG : zG (fun q : Nat => s.heap.size ≤ q) s) (hCa : zCa s) (hL : L ≤ 3584) {sg : zSy} {C Rr : va_W} {fo : Nat → Int64} {i : Int32} {H : Heap} {locs : List Loc} {ls : Array Slot} {k n : Nat} (hO : zOkG sg) (hC : zCi cI cJ cQ x0 sg C) (hR : zRi cI m0 sg Rr) (hP : va_P (dC, dI) vwCl (C ++ ((o0, .inl (cJ, 1, .inr (.inl fo))) :: Rr)) H) (hD : va_D (fun q : Nat => s.heap.size ≤ q) (C ++ ((o0, .inl (cJ, 1, .inr (.inl fo))) :: Rr))) (hS : va_S (fun q : Nat => s.heap.size ≤ q) s.heap H locs) (hl : lv_has ls 7 [(0, .ref b), (1, .ref x0), (2, .ref m0), (3, .ref o0), (4, .int i)]) (hi0 : 0 ≤ i.toInt) (hiL : i.toInt + 7 ≤ (L : Int)) (hk : k + 3 ≤ 601024) (hn : n + 300 ≤ 7293034) (J : ∀ (sg : zSy) (C Rr : va_W) (fo : Nat → Int64) (H : Heap) (locs : List Loc) (ls : Array Slot), zOkG sg → zCi cI cJ cQ x0 sg C → zRi cI m0 sg Rr → va_P (dC, dI) vwCl (C ++ ((o0, .inl (cJ, 1, .inr (.inl fo))) :: Rr)) H → va_D (fun q : Nat => s.heap.size ≤ q) (C ++ ((o0, .inl (cJ, 1, .inr (.inl fo))) :: Rr)) → va_S (fun q : Nat => s.heap.size ≤ q) s.heap H locs → lv_has ls 7 [(0, .ref b), (1, .ref x0), (2, .ref m0), (3, .ref o0), (4, .int i)] → W p l e room_1 s m #[Value.ref b] below meth c H locs (k + 3) (n + 300) (lw_Z below #[Value.ref b] s) (F0 m 1797 ls [])) : W p l e room_1 s m #[Value.ref b] below meth c H locs k n (lw_Z below #[Value.ref b] s) (F0 m 733 ls []) := by
  obtain ⟨hx, hb, hr, hml, hown, hts0, hX, hbl, hlocks, hgv⟩ := id C0
  have hts : ∀ w ∈ wA, w.before #[Value.ref b] s = true := fun w h => hts0 w (List.mem_filter.mp h).1
  have hown : s.vm.findClass RL = some m.cls := hown
  have hcf : CallFix p m c code 7 s #[Value.ref b] wA RL := ⟨hx, hb, hml, hown, hts⟩
  have hbA : ¬ (fun q : Nat => s.heap.size ≤ q) b := Nat.not_le.mpr hbl
  refine lv_aload_n hx hb dL_law_733 rfl (lv_at hl 1 rfl) ?_
  refine lv_aload_n hx hb dL_law_734 rfl (lv_at hl 0 rfl) ?_
  refine lv_iload hx hb dL_law_735 (lv_at hl 4 rfl) ?_
  refine lv_iconst (v := 1) hx hb dL_law_737 (by decide) ?_
  refine lv_iadd hx hb dL_law_738 ?_
  refine lv_topi (fun v738 e738 => ?_)
  have i738 : v738.toInt = i.toInt + 1 := zadd e738 rfl (by decide) (by omega) (by omega)
  refine va_sld hx hb hX hbl hbA hS (vp_in_iff.mpr ⟨by omega, by omega⟩) dL_law_739 ?_
  refine lv_topi (fun v739 e739 => ?_)
  refine k_X10_shoe (rest := []) hcf hK3 hV hC hO hP hD hS (fun _ h => h) hl.1 (Nat.le_of_ble_eq_true rfl) (by show k + 0 ≤ 601024; omega) (by show n + 0 ≤ 7293034; omega) dL_law_740 (fun v740 C H locs hv1 hC hP hD hS => ?_)
  refine lv_pop hx hb dL_law_743 rfl ?_
  refine lv_aload_n hx hb dL_law_744 rfl (lv_at hl 2 rfl) ?_
  refine lv_aload_n hx hb dL_law_745 rfl (lv_at hl 0 rfl) ?_
  refine lv_iload hx hb dL_law_746 (lv_at hl 4 rfl) ?_
  refine lv_iconst (v := 1) hx hb dL_law_748 (by decide) ?_
  refine lv_iadd hx hb dL_law_749 ?_
  refine lv_topi (fun v749 e749 => ?_)
  have i749 : v749.toInt = i.toInt + 1 := zadd e749 rfl (by decide) (by omega) (by omega)
  refine va_sld hx hb hX hbl hbA hS (vp_in_iff.mpr ⟨by omega, by omega⟩) dL_law_750 ?_
  refine lv_topi (fun v750 e750 => ?_)
  have hP := zRotP hP
  have hD := zRotD hD
  refine k_X11_shoe (rest := []) hcf hK3 hV hR hO hP hD hS (fun _ h => h) hl.1 (Nat.le_of_ble_eq_true rfl) (by show k + 0 ≤ 601024; omega) (by show n + 0 ≤ 7293034; omega) dL_law_751 (fun v751 Rr H locs hv2 hR hP hD hS => ?_)
  have hP := zRotP' hP
  have hD := zRotD' hD
  have ev0 : v750 = v739 := by rw [e750, e739, e749, e738]
  rw [ev0] at hv2 hR
  have er : v740.toInt = v751.toInt := congrArg Int32.toInt (hv1.trans hv2.symm)
  have hO : zOkG (sg.1, sg.2.1, sg.2.2.1, sg.2.2.2.1, sg.2.2.2.2.1, sDo (sW_tld sg.2.2.2.1.1.toInt sg.2.2.2.2.2.1.1 sg.2.2.2.2.2.1.1.2.2.1.2.1 v739 1) sg.2.2.2.2.2.1 (sN_sho sg.2.2.2.2.2.1.1 v739), sg.2.2.2.2.2.2) := ⟨ok_sho hO.1, hO.2⟩
  refine lv_pop hx hb dL_law_754 rfl ?_
  refine lv_goto (tgt := 1797) hx hb dL_law_755 (by decide) ?_
  refine W.widen (k := k + 3) (n := n + 300) (by omega) (by omega) ?_
  exact J _ C Rr fo H locs ls hO hC hR hP hD hS (lv_sub hl [0, 1, 2, 3, 4] rfl)
set_option maxHeartbeats 4000000 in
set_option maxRecDepth 100000 in
theorem law_case_15 {p : Program} {l : Launch} {e : Env} {s : State} {m : MethodId} {below : List Frame} {meth : Method} {c : Code} {b L : Nat} {xs : Nat → Int32} {dC : Nat → ClassId} {dI : Nat → Nat → Nat} {cI cJ cQ : ClassId} {x0 m0 o0 : Nat} (hl0 : l.stackTraces = false) (C0 : lw_At p s m meth c b L xs) (hK3 : va_K (dC, dI) vwCl [(cI, .int), (cJ, .long), (cQ, .object "NinePortraits$Law")] s) (hV : zV (fun q : Nat => s.heap.size ≤ q) s) (hG : zG (fun q : Nat => s.heap.size ≤ q) s) (hCa : zCa s) (hL : L ≤ 3584) {sg : zSy} {C Rr : va_W} {fo : Nat → Int64} {i : Int32} {H : Heap} {locs : List Loc} {ls : Array Slot} {k n : Nat} (hO : zOkG sg) (hC : zCi cI cJ cQ x0 sg C) (hR : zRi cI m0 sg Rr) (hP : va_P (dC, dI) vwCl (C ++ ((o0, .inl (cJ, 1, .inr (.inl fo))) :: Rr)) H) (hD : va_D (fun q : Nat => s.heap.size ≤ q) (C ++ ((o0, .inl (cJ, 1, .inr (.inl fo))) :: Rr))) (hS : va_S (fun q : Nat => s.heap.size ≤ q) s.heap H locs) (hl : lv_has ls 7 [(0, .ref b), (1, .ref x0), (2, .ref m0), (3, .ref o0), (4, .int i)]) (hi0 : 0 ≤ i.toInt) (hiL : i.toInt + 7 ≤ (L : Int)) (hk : k + 3 ≤ 601024) (hn : n + 300 ≤ 7293034) (J : ∀ (sg : zSy) (C Rr : va_W) (fo : Nat → Int64) (H : Heap) (locs : List Loc) (ls : Array Slot), zOkG sg → zCi cI cJ cQ x0 sg C → zRi cI m0 sg Rr → va_P (dC, dI) vwCl (C ++ ((o0, .inl (cJ, 1, .inr (.inl fo))) :: Rr)) H → va_D (fun q : Nat => s.heap.size ≤ q) (C ++ ((o0, .inl (cJ, 1, .inr (.inl fo))) :: Rr)) → va_S (fun q : Nat => s.heap.size ≤ q) s.heap H locs → lv_has ls 7 [(0, .ref b), (1, .ref x0), (2, .ref m0), (3, .ref o0), (4, .int i)] → W p l e room_1 s m #[Value.ref b] below meth c H locs (k + 3) (n + 300) (lw_Z below #[Value.ref b] s) (F0 m 1797 ls [])) : W p l e room_1 s m #[Value.ref b] below meth c H locs k n (lw_Z below #[Value.ref b] s) (F0 m 758 ls []) := by
  obtain ⟨hx, hb, hr, hml, hown, hts0, hX, hbl, hlocks, hgv⟩ := id C0
  have hts : ∀ w ∈ wA, w.before #[Value.ref b] s = true := fun w h => hts0 w (List.mem_filter.mp h).1
  have hown : s.vm.findClass RL = some m.cls := hown
  have hcf : CallFix p m c code 7 s #[Value.ref b] wA RL := ⟨hx, hb, hml, hown, hts⟩
  have hbA : ¬ (fun q : Nat => s.heap.size ≤ q) b := Nat.not_le.mpr hbl
  refine lv_aload_n hx hb dL_law_758 rfl (lv_at hl 1 rfl) ?_
  refine lv_aload_n hx hb dL_law_759 rfl (lv_at hl 0 rfl) ?_
  refine lv_iload hx hb dL_law_760 (lv_at hl 4 rfl) ?_
  refine lv_iconst (v := 1) hx hb dL_law_762 (by decide) ?_
  refine lv_iadd hx hb dL_law_763 ?_
  refine lv_topi (fun v763 e763 => ?_)
  have i763 : v763.toInt = i.toInt + 1 := zadd e763 rfl (by decide) (by omega) (by omega)
  refine va_sld hx hb hX hbl hbA hS (vp_in_iff.mpr ⟨by omega, by omega⟩) dL_law_764 ?_
  refine lv_topi (fun v764 e764 => ?_)
  refine k_X10_wed (rest := []) hcf hK3 hV hC hO hP hD hS (fun _ h => h) hl.1 (Nat.le_of_ble_eq_true rfl) (by show k + 0 ≤ 601024; omega) (by show n + 0 ≤ 7293034; omega) dL_law_765 (fun v765 C H locs hv1 hC hP hD hS => ?_)
  refine lv_pop hx hb dL_law_768 rfl ?_
  refine lv_aload_n hx hb dL_law_769 rfl (lv_at hl 2 rfl) ?_
  refine lv_aload_n hx hb dL_law_770 rfl (lv_at hl 0 rfl) ?_
  refine lv_iload hx hb dL_law_771 (lv_at hl 4 rfl) ?_
  refine lv_iconst (v := 1) hx hb dL_law_773 (by decide) ?_
  refine lv_iadd hx hb dL_law_774 ?_
  refine lv_topi (fun v774 e774 => ?_)
  have i774 : v774.toInt = i.toInt + 1 := zadd e774 rfl (by decide) (by omega) (by omega)
  refine va_sld hx hb hX hbl hbA hS (vp_in_iff.mpr ⟨by omega, by omega⟩) dL_law_775 ?_
  refine lv_topi (fun v775 e775 => ?_)
  have hP := zRotP hP
  have hD := zRotD hD
  refine k_X11_wed (rest := []) hcf hK3 hV hR hO hP hD hS (fun _ h => h) hl.1 (Nat.le_of_ble_eq_true rfl) (by show k + 0 ≤ 601024; omega) (by show n + 0 ≤ 7293034; omega) dL_law_776 (fun v776 Rr H locs hv2 hR hP hD hS => ?_)
  have hP := zRotP' hP
  have hD := zRotD' hD
  have ev0 : v775 = v764 := by rw [e775, e764, e774, e763]
  rw [ev0] at hv2 hR
  have er : v765.toInt = v776.toInt := congrArg Int32.toInt (hv1.trans hv2.symm)
  have hO : zOkG (sg.1, sg.2.1, sg.2.2.1, sg.2.2.2.1, sg.2.2.2.2.1, sDo (sW_wed sg.2.2.2.1.1.toInt sg.2.2.2.2.2.1.1 v764) sg.2.2.2.2.2.1 (sN_wed sg.2.2.2.1.2.2 sg.2.2.2.2.2.1.1 v764), sg.2.2.2.2.2.2) := ⟨ok_wed hO.1, hO.2⟩
  refine lv_pop hx hb dL_law_779 rfl ?_
  refine lv_goto (tgt := 1797) hx hb dL_law_780 (by decide) ?_
  refine W.widen (k := k + 3) (n := n + 300) (by omega) (by omega) ?_
  exact J _ C Rr fo H locs ls hO hC hR hP hD hS (lv_sub hl [0, 1, 2, 3, 4] rfl)
set_option maxHeartbeats 4000000 in
set_option maxRecDepth 100000 in
theorem law_case_16 {p : Program} {l : Launch} {e : Env} {s : State} {m : MethodId} {below : List Frame} {meth : Method} {c : Code} {b L : Nat} {xs : Nat → Int32} {dC : Nat → ClassId} {dI : Nat → Nat → Nat} {cI cJ cQ : ClassId} {x0 m0 o0 : Nat} (hl0 : l.stackTraces = false) (C0 : lw_At p s m meth c b L xs) (hK3 : va_K (dC, dI) vwCl [(cI, .int), (cJ, .long), (cQ, .object "NinePortraits$Law")] s) (hV : zV (fun q : Nat => s.heap.size ≤ q) s) (hG : zG (fun q : Nat => s.heap.size ≤ q) s) (hCa : zCa s) (hL : L ≤ 3584) {sg : zSy} {C Rr : va_W} {fo : Nat → Int64} {i : Int32} {H : Heap} {locs : List Loc} {ls : Array Slot} {k n : Nat} (hO : zOkG sg) (hC : zCi cI cJ cQ x0 sg C) (hR : zRi cI m0 sg Rr) (hP : va_P (dC, dI) vwCl (C ++ ((o0, .inl (cJ, 1, .inr (.inl fo))) :: Rr)) H) (hD : va_D (fun q : Nat => s.heap.size ≤ q) (C ++ ((o0, .inl (cJ, 1, .inr (.inl fo))) :: Rr))) (hS : va_S (fun q : Nat => s.heap.size ≤ q) s.heap H locs) (hl : lv_has ls 7 [(0, .ref b), (1, .ref x0), (2, .ref m0), (3, .ref o0), (4, .int i)]) (hi0 : 0 ≤ i.toInt) (hiL : i.toInt + 7 ≤ (L : Int)) (hk : k + 3 ≤ 601024) (hn : n + 300 ≤ 7293034) (J : ∀ (sg : zSy) (C Rr : va_W) (fo : Nat → Int64) (H : Heap) (locs : List Loc) (ls : Array Slot), zOkG sg → zCi cI cJ cQ x0 sg C → zRi cI m0 sg Rr → va_P (dC, dI) vwCl (C ++ ((o0, .inl (cJ, 1, .inr (.inl fo))) :: Rr)) H → va_D (fun q : Nat => s.heap.size ≤ q) (C ++ ((o0, .inl (cJ, 1, .inr (.inl fo))) :: Rr)) → va_S (fun q : Nat => s.heap.size ≤ q) s.heap H locs → lv_has ls 7 [(0, .ref b), (1, .ref x0), (2, .ref m0), (3, .ref o0), (4, .int i)] → W p l e room_1 s m #[Value.ref b] below meth c H locs (k + 3) (n + 300) (lw_Z below #[Value.ref b] s) (F0 m 1797 ls [])) : W p l e room_1 s m #[Value.ref b] below meth c H locs k n (lw_Z below #[Value.ref b] s) (F0 m 783 ls []) := by
  obtain ⟨hx, hb, hr, hml, hown, hts0, hX, hbl, hlocks, hgv⟩ := id C0
  have hts : ∀ w ∈ wA, w.before #[Value.ref b] s = true := fun w h => hts0 w (List.mem_filter.mp h).1
  have hown : s.vm.findClass RL = some m.cls := hown
  have hcf : CallFix p m c code 7 s #[Value.ref b] wA RL := ⟨hx, hb, hml, hown, hts⟩
  have hbA : ¬ (fun q : Nat => s.heap.size ≤ q) b := Nat.not_le.mpr hbl
  refine lv_aload_n hx hb dL_law_783 rfl (lv_at hl 1 rfl) ?_
  refine k_X10_annul (rest := []) hcf hK3 hV hC hO hP hD hS (fun _ h => h) hl.1 (Nat.le_of_ble_eq_true rfl) (by show k + 0 ≤ 601024; omega) (by show n + 0 ≤ 7293034; omega) dL_law_784 (fun v784 C H locs hv1 hC hP hD hS => ?_)
  refine lv_pop hx hb dL_law_787 rfl ?_
  refine lv_aload_n hx hb dL_law_788 rfl (lv_at hl 2 rfl) ?_
  have hP := zRotP hP
  have hD := zRotD hD
  refine k_X11_annul (rest := []) hcf hK3 hV hR hO hP hD hS (fun _ h => h) hl.1 (Nat.le_of_ble_eq_true rfl) (by show k + 0 ≤ 601024; omega) (by show n + 0 ≤ 7293034; omega) dL_law_789 (fun v789 Rr H locs hv2 hR hP hD hS => ?_)
  have hP := zRotP' hP
  have hD := zRotD' hD
  have er : v784.toInt = v789.toInt := congrArg Int32.toInt (hv1.trans hv2.symm)
  have hO : zOkG (sg.1, sg.2.1, sg.2.2.1, sg.2.2.2.1, sg.2.2.2.2.1, sDo (sW_ann sg.2.2.2.1.1.toInt sg.2.2.2.1.2.2 sg.2.2.2.2.2.1.1) sg.2.2.2.2.2.1 (sN_ann sg.2.2.2.2.2.1.1), sg.2.2.2.2.2.2) := ⟨ok_ann hO.1, hO.2⟩
  refine lv_pop hx hb dL_law_792 rfl ?_
  refine lv_goto (tgt := 1797) hx hb dL_law_793 (by decide) ?_
  refine W.widen (k := k + 3) (n := n + 300) (by omega) (by omega) ?_
  exact J _ C Rr fo H locs ls hO hC hR hP hD hS (lv_sub hl [0, 1, 2, 3, 4] rfl)
set_option maxHeartbeats 4000000 in
set_option maxRecDepth 100000 in
theorem law_case_17 {p : Program} {l : Launch} {e : Env} {s : State} {m : MethodId} {below : List Frame} {meth : Method} {c : Code} {b L : Nat} {xs : Nat → Int32} {dC : Nat → ClassId} {dI : Nat → Nat → Nat} {cI cJ cQ : ClassId} {x0 m0 o0 : Nat} (hl0 : l.stackTraces = false) (C0 : lw_At p s m meth c b L xs) (hK3 : va_K (dC, dI) vwCl [(cI, .int), (cJ, .long), (cQ, .object "NinePortraits$Law")] s) (hV : zV (fun q : Nat => s.heap.size ≤ q) s) (hG : zG (fun q : Nat => s.heap.size ≤ q) s) (hCa : zCa s) (hL : L ≤ 3584) {sg : zSy} {C Rr : va_W} {fo : Nat → Int64} {i : Int32} {H : Heap} {locs : List Loc} {ls : Array Slot} {k n : Nat} (hO : zOkG sg) (hC : zCi cI cJ cQ x0 sg C) (hR : zRi cI m0 sg Rr) (hP : va_P (dC, dI) vwCl (C ++ ((o0, .inl (cJ, 1, .inr (.inl fo))) :: Rr)) H) (hD : va_D (fun q : Nat => s.heap.size ≤ q) (C ++ ((o0, .inl (cJ, 1, .inr (.inl fo))) :: Rr))) (hS : va_S (fun q : Nat => s.heap.size ≤ q) s.heap H locs) (hl : lv_has ls 7 [(0, .ref b), (1, .ref x0), (2, .ref m0), (3, .ref o0), (4, .int i)]) (hi0 : 0 ≤ i.toInt) (hiL : i.toInt + 7 ≤ (L : Int)) (hk : k + 3 ≤ 601024) (hn : n + 300 ≤ 7293034) (J : ∀ (sg : zSy) (C Rr : va_W) (fo : Nat → Int64) (H : Heap) (locs : List Loc) (ls : Array Slot), zOkG sg → zCi cI cJ cQ x0 sg C → zRi cI m0 sg Rr → va_P (dC, dI) vwCl (C ++ ((o0, .inl (cJ, 1, .inr (.inl fo))) :: Rr)) H → va_D (fun q : Nat => s.heap.size ≤ q) (C ++ ((o0, .inl (cJ, 1, .inr (.inl fo))) :: Rr)) → va_S (fun q : Nat => s.heap.size ≤ q) s.heap H locs → lv_has ls 7 [(0, .ref b), (1, .ref x0), (2, .ref m0), (3, .ref o0), (4, .int i)] → W p l e room_1 s m #[Value.ref b] below meth c H locs (k + 3) (n + 300) (lw_Z below #[Value.ref b] s) (F0 m 1797 ls [])) : W p l e room_1 s m #[Value.ref b] below meth c H locs k n (lw_Z below #[Value.ref b] s) (F0 m 796 ls []) := by
  obtain ⟨hx, hb, hr, hml, hown, hts0, hX, hbl, hlocks, hgv⟩ := id C0
  have hts : ∀ w ∈ wA, w.before #[Value.ref b] s = true := fun w h => hts0 w (List.mem_filter.mp h).1
  have hown : s.vm.findClass RL = some m.cls := hown
  have hcf : CallFix p m c code 7 s #[Value.ref b] wA RL := ⟨hx, hb, hml, hown, hts⟩
  have hbA : ¬ (fun q : Nat => s.heap.size ≤ q) b := Nat.not_le.mpr hbl
  refine lv_aload_n hx hb dL_law_796 rfl (lv_at hl 1 rfl) ?_
  refine lv_aload_n hx hb dL_law_797 rfl (lv_at hl 0 rfl) ?_
  refine lv_iload hx hb dL_law_798 (lv_at hl 4 rfl) ?_
  refine lv_iconst (v := 1) hx hb dL_law_800 (by decide) ?_
  refine lv_iadd hx hb dL_law_801 ?_
  refine lv_topi (fun v801 e801 => ?_)
  have i801 : v801.toInt = i.toInt + 1 := zadd e801 rfl (by decide) (by omega) (by omega)
  refine va_sld hx hb hX hbl hbA hS (vp_in_iff.mpr ⟨by omega, by omega⟩) dL_law_802 ?_
  refine lv_topi (fun v802 e802 => ?_)
  refine k_X10_months (rest := []) hcf hK3 hV hC hO hP hD hS (fun _ h => h) hl.1 (Nat.le_of_ble_eq_true rfl) (by show k + 0 ≤ 601024; omega) (by show n + 0 ≤ 7293034; omega) dL_law_803 (fun v803 C H locs hv1 hC hP hD hS => ?_)
  refine lv_pop hx hb dL_law_806 rfl ?_
  refine lv_aload_n hx hb dL_law_807 rfl (lv_at hl 2 rfl) ?_
  refine lv_aload_n hx hb dL_law_808 rfl (lv_at hl 0 rfl) ?_
  refine lv_iload hx hb dL_law_809 (lv_at hl 4 rfl) ?_
  refine lv_iconst (v := 1) hx hb dL_law_811 (by decide) ?_
  refine lv_iadd hx hb dL_law_812 ?_
  refine lv_topi (fun v812 e812 => ?_)
  have i812 : v812.toInt = i.toInt + 1 := zadd e812 rfl (by decide) (by omega) (by omega)
  refine va_sld hx hb hX hbl hbA hS (vp_in_iff.mpr ⟨by omega, by omega⟩) dL_law_813 ?_
  refine lv_topi (fun v813 e813 => ?_)
  have hP := zRotP hP
  have hD := zRotD hD
  refine k_X11_months (rest := []) hcf hK3 hV hR hO hP hD hS (fun _ h => h) hl.1 (Nat.le_of_ble_eq_true rfl) (by show k + 0 ≤ 601024; omega) (by show n + 0 ≤ 7293034; omega) dL_law_814 (fun v814 Rr H locs hv2 hR hP hD hS => ?_)
  have hP := zRotP' hP
  have hD := zRotD' hD
  have ev0 : v813 = v802 := by rw [e813, e802, e812, e801]
  rw [ev0] at hv2 hR
  have er : v803.toInt = v814.toInt := congrArg Int32.toInt (hv1.trans hv2.symm)
  have hO : zOkG (sg.1, sg.2.1, sg.2.2.1, sg.2.2.2.1, sg.2.2.2.2.1, sT_mon sg.2.2.2.1.1.toInt sg.2.2.2.2.2.1 v802, sg.2.2.2.2.2.2) := ⟨ok_mon hO.1, hO.2⟩
  refine lv_pop hx hb dL_law_817 rfl ?_
  refine lv_goto (tgt := 1797) hx hb dL_law_818 (by decide) ?_
  refine W.widen (k := k + 3) (n := n + 300) (by omega) (by omega) ?_
  exact J _ C Rr fo H locs ls hO hC hR hP hD hS (lv_sub hl [0, 1, 2, 3, 4] rfl)
set_option maxHeartbeats 4000000 in
set_option maxRecDepth 100000 in
theorem law_case_18 {p : Program} {l : Launch} {e : Env} {s : State} {m : MethodId} {below : List Frame} {meth : Method} {c : Code} {b L : Nat} {xs : Nat → Int32} {dC : Nat → ClassId} {dI : Nat → Nat → Nat} {cI cJ cQ : ClassId} {x0 m0 o0 : Nat} (hl0 : l.stackTraces = false) (C0 : lw_At p s m meth c b L xs) (hK3 : va_K (dC, dI) vwCl [(cI, .int), (cJ, .long), (cQ, .object "NinePortraits$Law")] s) (hV : zV (fun q : Nat => s.heap.size ≤ q) s) (hG : zG (fun q : Nat => s.heap.size ≤ q) s) (hCa : zCa s) (hL : L ≤ 3584) {sg : zSy} {C Rr : va_W} {fo : Nat → Int64} {i : Int32} {H : Heap} {locs : List Loc} {ls : Array Slot} {k n : Nat} (hO : zOkG sg) (hC : zCi cI cJ cQ x0 sg C) (hR : zRi cI m0 sg Rr) (hP : va_P (dC, dI) vwCl (C ++ ((o0, .inl (cJ, 1, .inr (.inl fo))) :: Rr)) H) (hD : va_D (fun q : Nat => s.heap.size ≤ q) (C ++ ((o0, .inl (cJ, 1, .inr (.inl fo))) :: Rr))) (hS : va_S (fun q : Nat => s.heap.size ≤ q) s.heap H locs) (hl : lv_has ls 7 [(0, .ref b), (1, .ref x0), (2, .ref m0), (3, .ref o0), (4, .int i)]) (hi0 : 0 ≤ i.toInt) (hiL : i.toInt + 7 ≤ (L : Int)) (hk : k + 3 ≤ 601024) (hn : n + 300 ≤ 7293034) (J : ∀ (sg : zSy) (C Rr : va_W) (fo : Nat → Int64) (H : Heap) (locs : List Loc) (ls : Array Slot), zOkG sg → zCi cI cJ cQ x0 sg C → zRi cI m0 sg Rr → va_P (dC, dI) vwCl (C ++ ((o0, .inl (cJ, 1, .inr (.inl fo))) :: Rr)) H → va_D (fun q : Nat => s.heap.size ≤ q) (C ++ ((o0, .inl (cJ, 1, .inr (.inl fo))) :: Rr)) → va_S (fun q : Nat => s.heap.size ≤ q) s.heap H locs → lv_has ls 7 [(0, .ref b), (1, .ref x0), (2, .ref m0), (3, .ref o0), (4, .int i)] → W p l e room_1 s m #[Value.ref b] below meth c H locs (k + 3) (n + 300) (lw_Z below #[Value.ref b] s) (F0 m 1797 ls [])) : W p l e room_1 s m #[Value.ref b] below meth c H locs k n (lw_Z below #[Value.ref b] s) (F0 m 821 ls []) := by
  obtain ⟨hx, hb, hr, hml, hown, hts0, hX, hbl, hlocks, hgv⟩ := id C0
  have hts : ∀ w ∈ wA, w.before #[Value.ref b] s = true := fun w h => hts0 w (List.mem_filter.mp h).1
  have hown : s.vm.findClass RL = some m.cls := hown
  have hcf : CallFix p m c code 7 s #[Value.ref b] wA RL := ⟨hx, hb, hml, hown, hts⟩
  have hbA : ¬ (fun q : Nat => s.heap.size ≤ q) b := Nat.not_le.mpr hbl
  refine lv_aload_n hx hb dL_law_821 rfl (lv_at hl 1 rfl) ?_
  refine lv_aload_n hx hb dL_law_822 rfl (lv_at hl 0 rfl) ?_
  refine lv_iload hx hb dL_law_823 (lv_at hl 4 rfl) ?_
  refine lv_iconst (v := 1) hx hb dL_law_825 (by decide) ?_
  refine lv_iadd hx hb dL_law_826 ?_
  refine lv_topi (fun v826 e826 => ?_)
  have i826 : v826.toInt = i.toInt + 1 := zadd e826 rfl (by decide) (by omega) (by omega)
  refine va_sld hx hb hX hbl hbA hS (vp_in_iff.mpr ⟨by omega, by omega⟩) dL_law_827 ?_
  refine lv_topi (fun v827 e827 => ?_)
  refine k_X10_bribes (rest := []) hcf hK3 hV hC hO hP hD hS (fun _ h => h) hl.1 (Nat.le_of_ble_eq_true rfl) (by show k + 0 ≤ 601024; omega) (by show n + 0 ≤ 7293034; omega) dL_law_828 (fun v828 C H locs hv1 hC hP hD hS => ?_)
  refine lv_pop hx hb dL_law_831 rfl ?_
  refine lv_aload_n hx hb dL_law_832 rfl (lv_at hl 2 rfl) ?_
  refine lv_aload_n hx hb dL_law_833 rfl (lv_at hl 0 rfl) ?_
  refine lv_iload hx hb dL_law_834 (lv_at hl 4 rfl) ?_
  refine lv_iconst (v := 1) hx hb dL_law_836 (by decide) ?_
  refine lv_iadd hx hb dL_law_837 ?_
  refine lv_topi (fun v837 e837 => ?_)
  have i837 : v837.toInt = i.toInt + 1 := zadd e837 rfl (by decide) (by omega) (by omega)
  refine va_sld hx hb hX hbl hbA hS (vp_in_iff.mpr ⟨by omega, by omega⟩) dL_law_838 ?_
  refine lv_topi (fun v838 e838 => ?_)
  have hP := zRotP hP
  have hD := zRotD hD
  refine k_X11_bribes (rest := []) hcf hK3 hV hR hO hP hD hS (fun _ h => h) hl.1 (Nat.le_of_ble_eq_true rfl) (by show k + 0 ≤ 601024; omega) (by show n + 0 ≤ 7293034; omega) dL_law_839 (fun v839 Rr H locs hv2 hR hP hD hS => ?_)
  have hP := zRotP' hP
  have hD := zRotD' hD
  have ev0 : v838 = v827 := by rw [e838, e827, e837, e826]
  rw [ev0] at hv2 hR
  have er : v828.toInt = v839.toInt := hv1.trans hv2.symm
  have hO : zOkG (sg.1, sg.2.1, sB_bribes sg.2.2.1 v827, sg.2.2.2.1, sg.2.2.2.2.1, sg.2.2.2.2.2.1, sg.2.2.2.2.2.2) := ⟨hO.1, hO.2⟩
  refine lv_pop hx hb dL_law_842 rfl ?_
  refine lv_goto (tgt := 1797) hx hb dL_law_843 (by decide) ?_
  refine W.widen (k := k + 3) (n := n + 300) (by omega) (by omega) ?_
  exact J _ C Rr fo H locs ls hO hC hR hP hD hS (lv_sub hl [0, 1, 2, 3, 4] rfl)
set_option maxHeartbeats 4000000 in
set_option maxRecDepth 100000 in
theorem law_case_19 {p : Program} {l : Launch} {e : Env} {s : State} {m : MethodId} {below : List Frame} {meth : Method} {c : Code} {b L : Nat} {xs : Nat → Int32} {dC : Nat → ClassId} {dI : Nat → Nat → Nat} {cI cJ cQ : ClassId} {x0 m0 o0 : Nat} (hl0 : l.stackTraces = false) (C0 : lw_At p s m meth c b L xs) (hK3 : va_K (dC, dI) vwCl [(cI, .int), (cJ, .long), (cQ, .object "NinePortraits$Law")] s) (hV : zV (fun q : Nat => s.heap.size ≤ q) s) (hG : zG (fun q : Nat => s.heap.size ≤ q) s) (hCa : zCa s) (hL : L ≤ 3584) {sg : zSy} {C Rr : va_W} {fo : Nat → Int64} {i : Int32} {H : Heap} {locs : List Loc} {ls : Array Slot} {k n : Nat} (hO : zOkG sg) (hC : zCi cI cJ cQ x0 sg C) (hR : zRi cI m0 sg Rr) (hP : va_P (dC, dI) vwCl (C ++ ((o0, .inl (cJ, 1, .inr (.inl fo))) :: Rr)) H) (hD : va_D (fun q : Nat => s.heap.size ≤ q) (C ++ ((o0, .inl (cJ, 1, .inr (.inl fo))) :: Rr))) (hS : va_S (fun q : Nat => s.heap.size ≤ q) s.heap H locs) (hl : lv_has ls 7 [(0, .ref b), (1, .ref x0), (2, .ref m0), (3, .ref o0), (4, .int i)]) (hi0 : 0 ≤ i.toInt) (hiL : i.toInt + 7 ≤ (L : Int)) (hk : k + 3 ≤ 601024) (hn : n + 300 ≤ 7293034) (J : ∀ (sg : zSy) (C Rr : va_W) (fo : Nat → Int64) (H : Heap) (locs : List Loc) (ls : Array Slot), zOkG sg → zCi cI cJ cQ x0 sg C → zRi cI m0 sg Rr → va_P (dC, dI) vwCl (C ++ ((o0, .inl (cJ, 1, .inr (.inl fo))) :: Rr)) H → va_D (fun q : Nat => s.heap.size ≤ q) (C ++ ((o0, .inl (cJ, 1, .inr (.inl fo))) :: Rr)) → va_S (fun q : Nat => s.heap.size ≤ q) s.heap H locs → lv_has ls 7 [(0, .ref b), (1, .ref x0), (2, .ref m0), (3, .ref o0), (4, .int i)] → W p l e room_1 s m #[Value.ref b] below meth c H locs (k + 3) (n + 300) (lw_Z below #[Value.ref b] s) (F0 m 1797 ls [])) : W p l e room_1 s m #[Value.ref b] below meth c H locs k n (lw_Z below #[Value.ref b] s) (F0 m 846 ls []) := by
  obtain ⟨hx, hb, hr, hml, hown, hts0, hX, hbl, hlocks, hgv⟩ := id C0
  have hts : ∀ w ∈ wA, w.before #[Value.ref b] s = true := fun w h => hts0 w (List.mem_filter.mp h).1
  have hown : s.vm.findClass RL = some m.cls := hown
  have hcf : CallFix p m c code 7 s #[Value.ref b] wA RL := ⟨hx, hb, hml, hown, hts⟩
  have hbA : ¬ (fun q : Nat => s.heap.size ≤ q) b := Nat.not_le.mpr hbl
  refine lv_aload_n hx hb dL_law_846 rfl (lv_at hl 1 rfl) ?_
  refine lv_aload_n hx hb dL_law_847 rfl (lv_at hl 0 rfl) ?_
  refine lv_iload hx hb dL_law_848 (lv_at hl 4 rfl) ?_
  refine lv_iconst (v := 1) hx hb dL_law_850 (by decide) ?_
  refine lv_iadd hx hb dL_law_851 ?_
  refine lv_topi (fun v851 e851 => ?_)
  have i851 : v851.toInt = i.toInt + 1 := zadd e851 rfl (by decide) (by omega) (by omega)
  refine va_sld hx hb hX hbl hbA hS (vp_in_iff.mpr ⟨by omega, by omega⟩) dL_law_852 ?_
  refine lv_topi (fun v852 e852 => ?_)
  refine lv_aload_n hx hb dL_law_853 rfl (lv_at hl 0 rfl) ?_
  refine lv_iload hx hb dL_law_854 (lv_at hl 4 rfl) ?_
  refine lv_iconst (v := 2) hx hb dL_law_856 (by decide) ?_
  refine lv_iadd hx hb dL_law_857 ?_
  refine lv_topi (fun v857 e857 => ?_)
  have i857 : v857.toInt = i.toInt + 2 := zadd e857 rfl (by decide) (by omega) (by omega)
  refine va_sld hx hb hX hbl hbA hS (vp_in_iff.mpr ⟨by omega, by omega⟩) dL_law_858 ?_
  refine lv_topi (fun v858 e858 => ?_)
  refine lv_i2l hx hb dL_law_859 rfl ?_
  refine lv_topl (fun v859 e859 => ?_)
  refine lv_bipush (v := 32) hx hb dL_law_860 (by decide) ?_
  refine lv_lshl hx hb dL_law_862 rfl ?_
  refine lv_topl (fun v862 e862 => ?_)
  refine lv_aload_n hx hb dL_law_863 rfl (lv_at hl 0 rfl) ?_
  refine lv_iload hx hb dL_law_864 (lv_at hl 4 rfl) ?_
  refine lv_iconst (v := 3) hx hb dL_law_866 (by decide) ?_
  refine lv_iadd hx hb dL_law_867 ?_
  refine lv_topi (fun v867 e867 => ?_)
  have i867 : v867.toInt = i.toInt + 3 := zadd e867 rfl (by decide) (by omega) (by omega)
  refine va_sld hx hb hX hbl hbA hS (vp_in_iff.mpr ⟨by omega, by omega⟩) dL_law_868 ?_
  refine lv_topi (fun v868 e868 => ?_)
  refine lv_i2l hx hb dL_law_869 rfl ?_
  refine lv_topl (fun v869 e869 => ?_)
  refine lv_ldc2 (v := 4294967295) hx hb hown (hts _ qw1761) dL_law_870 ?_
  refine lv_land hx hb dL_law_873 ?_
  refine lv_topl (fun v873 e873 => ?_)
  refine lv_lor hx hb dL_law_874 ?_
  refine lv_topl (fun v874 e874 => ?_)
  refine k_X10_decades (rest := []) hcf hK3 hV hC hO hP hD hS (fun _ h => h) hl.1 (Nat.le_of_ble_eq_true rfl) (by show k + 0 ≤ 601024; omega) (by show n + 0 ≤ 7293034; omega) dL_law_875 (fun v875 C H locs hv1 hC hP hD hS => ?_)
  refine lv_pop hx hb dL_law_878 rfl ?_
  refine lv_aload_n hx hb dL_law_879 rfl (lv_at hl 2 rfl) ?_
  refine lv_aload_n hx hb dL_law_880 rfl (lv_at hl 0 rfl) ?_
  refine lv_iload hx hb dL_law_881 (lv_at hl 4 rfl) ?_
  refine lv_iconst (v := 1) hx hb dL_law_883 (by decide) ?_
  refine lv_iadd hx hb dL_law_884 ?_
  refine lv_topi (fun v884 e884 => ?_)
  have i884 : v884.toInt = i.toInt + 1 := zadd e884 rfl (by decide) (by omega) (by omega)
  refine va_sld hx hb hX hbl hbA hS (vp_in_iff.mpr ⟨by omega, by omega⟩) dL_law_885 ?_
  refine lv_topi (fun v885 e885 => ?_)
  refine lv_aload_n hx hb dL_law_886 rfl (lv_at hl 0 rfl) ?_
  refine lv_iload hx hb dL_law_887 (lv_at hl 4 rfl) ?_
  refine lv_iconst (v := 2) hx hb dL_law_889 (by decide) ?_
  refine lv_iadd hx hb dL_law_890 ?_
  refine lv_topi (fun v890 e890 => ?_)
  have i890 : v890.toInt = i.toInt + 2 := zadd e890 rfl (by decide) (by omega) (by omega)
  refine va_sld hx hb hX hbl hbA hS (vp_in_iff.mpr ⟨by omega, by omega⟩) dL_law_891 ?_
  refine lv_topi (fun v891 e891 => ?_)
  refine lv_i2l hx hb dL_law_892 rfl ?_
  refine lv_topl (fun v892 e892 => ?_)
  refine lv_bipush (v := 32) hx hb dL_law_893 (by decide) ?_
  refine lv_lshl hx hb dL_law_895 rfl ?_
  refine lv_topl (fun v895 e895 => ?_)
  refine lv_aload_n hx hb dL_law_896 rfl (lv_at hl 0 rfl) ?_
  refine lv_iload hx hb dL_law_897 (lv_at hl 4 rfl) ?_
  refine lv_iconst (v := 3) hx hb dL_law_899 (by decide) ?_
  refine lv_iadd hx hb dL_law_900 ?_
  refine lv_topi (fun v900 e900 => ?_)
  have i900 : v900.toInt = i.toInt + 3 := zadd e900 rfl (by decide) (by omega) (by omega)
  refine va_sld hx hb hX hbl hbA hS (vp_in_iff.mpr ⟨by omega, by omega⟩) dL_law_901 ?_
  refine lv_topi (fun v901 e901 => ?_)
  refine lv_i2l hx hb dL_law_902 rfl ?_
  refine lv_topl (fun v902 e902 => ?_)
  refine lv_ldc2 (v := 4294967295) hx hb hown (hts _ qw1761) dL_law_903 ?_
  refine lv_land hx hb dL_law_906 ?_
  refine lv_topl (fun v906 e906 => ?_)
  refine lv_lor hx hb dL_law_907 ?_
  refine lv_topl (fun v907 e907 => ?_)
  have hP := zRotP hP
  have hD := zRotD hD
  refine k_X11_decades (rest := []) hcf hK3 hV hR hO hP hD hS (fun _ h => h) hl.1 (Nat.le_of_ble_eq_true rfl) (by show k + 0 ≤ 601024; omega) (by show n + 0 ≤ 7293034; omega) dL_law_908 (fun v908 Rr H locs hv2 hR hP hD hS => ?_)
  have hP := zRotP' hP
  have hD := zRotD' hD
  have ev0 : v885 = v852 := by rw [e885, e852, e884, e851]
  rw [ev0] at hv2 hR
  have ev1 : v907 = v874 := by rw [e907, e906, e902, e901, e900, e895, e892, e891, e890, e874, e873, e869, e868, e867, e862, e859, e858, e857]
  rw [ev1] at hv2 hR
  have er : v875.toInt = v908.toInt := congrArg Int32.toInt (hv1.trans hv2.symm)
  have hO : zOkG (sg.1, sg.2.1, sg.2.2.1, sg.2.2.2.1, sg.2.2.2.2.1, sT_dec sg.2.2.2.1.1 sg.2.2.2.1.2.1 sg.2.2.1 sg.2.2.2.1.2.2 (zHo1 sg.2.2.2.2.1) sg.2.2.2.2.2.1 v852 v874, sg.2.2.2.2.2.2) := ⟨ok_dec hO.1, hO.2⟩
  refine lv_pop hx hb dL_law_911 rfl ?_
  refine lv_goto (tgt := 1797) hx hb dL_law_912 (by decide) ?_
  refine W.widen (k := k + 3) (n := n + 300) (by omega) (by omega) ?_
  exact J _ C Rr fo H locs ls hO hC hR hP hD hS (lv_sub hl [0, 1, 2, 3, 4] rfl)
set_option maxHeartbeats 4000000 in
set_option maxRecDepth 100000 in
theorem law_case_20 {p : Program} {l : Launch} {e : Env} {s : State} {m : MethodId} {below : List Frame} {meth : Method} {c : Code} {b L : Nat} {xs : Nat → Int32} {dC : Nat → ClassId} {dI : Nat → Nat → Nat} {cI cJ cQ : ClassId} {x0 m0 o0 : Nat} (hl0 : l.stackTraces = false) (C0 : lw_At p s m meth c b L xs) (hK3 : va_K (dC, dI) vwCl [(cI, .int), (cJ, .long), (cQ, .object "NinePortraits$Law")] s) (hV : zV (fun q : Nat => s.heap.size ≤ q) s) (hG : zG (fun q : Nat => s.heap.size ≤ q) s) (hCa : zCa s) (hL : L ≤ 3584) {sg : zSy} {C Rr : va_W} {fo : Nat → Int64} {i : Int32} {H : Heap} {locs : List Loc} {ls : Array Slot} {k n : Nat} (hO : zOkG sg) (hC : zCi cI cJ cQ x0 sg C) (hR : zRi cI m0 sg Rr) (hP : va_P (dC, dI) vwCl (C ++ ((o0, .inl (cJ, 1, .inr (.inl fo))) :: Rr)) H) (hD : va_D (fun q : Nat => s.heap.size ≤ q) (C ++ ((o0, .inl (cJ, 1, .inr (.inl fo))) :: Rr))) (hS : va_S (fun q : Nat => s.heap.size ≤ q) s.heap H locs) (hl : lv_has ls 7 [(0, .ref b), (1, .ref x0), (2, .ref m0), (3, .ref o0), (4, .int i)]) (hi0 : 0 ≤ i.toInt) (hiL : i.toInt + 7 ≤ (L : Int)) (hk : k + 3 ≤ 601024) (hn : n + 300 ≤ 7293034) (J : ∀ (sg : zSy) (C Rr : va_W) (fo : Nat → Int64) (H : Heap) (locs : List Loc) (ls : Array Slot), zOkG sg → zCi cI cJ cQ x0 sg C → zRi cI m0 sg Rr → va_P (dC, dI) vwCl (C ++ ((o0, .inl (cJ, 1, .inr (.inl fo))) :: Rr)) H → va_D (fun q : Nat => s.heap.size ≤ q) (C ++ ((o0, .inl (cJ, 1, .inr (.inl fo))) :: Rr)) → va_S (fun q : Nat => s.heap.size ≤ q) s.heap H locs → lv_has ls 7 [(0, .ref b), (1, .ref x0), (2, .ref m0), (3, .ref o0), (4, .int i)] → W p l e room_1 s m #[Value.ref b] below meth c H locs (k + 3) (n + 300) (lw_Z below #[Value.ref b] s) (F0 m 1797 ls [])) : W p l e room_1 s m #[Value.ref b] below meth c H locs k n (lw_Z below #[Value.ref b] s) (F0 m 915 ls []) := by
  obtain ⟨hx, hb, hr, hml, hown, hts0, hX, hbl, hlocks, hgv⟩ := id C0
  have hts : ∀ w ∈ wA, w.before #[Value.ref b] s = true := fun w h => hts0 w (List.mem_filter.mp h).1
  have hown : s.vm.findClass RL = some m.cls := hown
  have hcf : CallFix p m c code 7 s #[Value.ref b] wA RL := ⟨hx, hb, hml, hown, hts⟩
  have hbA : ¬ (fun q : Nat => s.heap.size ≤ q) b := Nat.not_le.mpr hbl
  refine lv_aload_n hx hb dL_law_915 rfl (lv_at hl 1 rfl) ?_
  refine lv_aload_n hx hb dL_law_916 rfl (lv_at hl 0 rfl) ?_
  refine lv_iload hx hb dL_law_917 (lv_at hl 4 rfl) ?_
  refine lv_iconst (v := 1) hx hb dL_law_919 (by decide) ?_
  refine lv_iadd hx hb dL_law_920 ?_
  refine lv_topi (fun v920 e920 => ?_)
  have i920 : v920.toInt = i.toInt + 1 := zadd e920 rfl (by decide) (by omega) (by omega)
  refine va_sld hx hb hX hbl hbA hS (vp_in_iff.mpr ⟨by omega, by omega⟩) dL_law_921 ?_
  refine lv_topi (fun v921 e921 => ?_)
  refine k_X10_status (rest := []) hcf hK3 hV hC hO hP hD hS (fun _ h => h) hl.1 (Nat.le_of_ble_eq_true rfl) (by show k + 0 ≤ 601024; omega) (by show n + 0 ≤ 7293034; omega) dL_law_922 (fun v922 C H locs hv1 hC hP hD hS => ?_)
  refine lv_pop hx hb dL_law_925 rfl ?_
  refine lv_aload_n hx hb dL_law_926 rfl (lv_at hl 2 rfl) ?_
  refine lv_aload_n hx hb dL_law_927 rfl (lv_at hl 0 rfl) ?_
  refine lv_iload hx hb dL_law_928 (lv_at hl 4 rfl) ?_
  refine lv_iconst (v := 1) hx hb dL_law_930 (by decide) ?_
  refine lv_iadd hx hb dL_law_931 ?_
  refine lv_topi (fun v931 e931 => ?_)
  have i931 : v931.toInt = i.toInt + 1 := zadd e931 rfl (by decide) (by omega) (by omega)
  refine va_sld hx hb hX hbl hbA hS (vp_in_iff.mpr ⟨by omega, by omega⟩) dL_law_932 ?_
  refine lv_topi (fun v932 e932 => ?_)
  have hP := zRotP hP
  have hD := zRotD hD
  refine k_X11_status (rest := []) hcf hK3 hV hR hO hP hD hS (fun _ h => h) hl.1 (Nat.le_of_ble_eq_true rfl) (by show k + 0 ≤ 601024; omega) (by show n + 0 ≤ 7293034; omega) dL_law_933 (fun v933 Rr H locs hv2 hR hP hD hS => ?_)
  have hP := zRotP' hP
  have hD := zRotD' hD
  have ev0 : v932 = v921 := by rw [e932, e921, e931, e920]
  rw [ev0] at hv2
  have er : v922.toInt = v933.toInt := congrArg Int32.toInt (hv1.trans hv2.symm)
  refine lv_pop hx hb dL_law_936 rfl ?_
  refine lv_goto (tgt := 1797) hx hb dL_law_937 (by decide) ?_
  refine W.widen (k := k + 3) (n := n + 300) (by omega) (by omega) ?_
  exact J _ C Rr fo H locs ls hO hC hR hP hD hS (lv_sub hl [0, 1, 2, 3, 4] rfl)
set_option maxHeartbeats 4000000 in
set_option maxRecDepth 100000 in
theorem law_case_21 {p : Program} {l : Launch} {e : Env} {s : State} {m : MethodId} {below : List Frame} {meth : Method} {c : Code} {b L : Nat} {xs : Nat → Int32} {dC : Nat → ClassId} {dI : Nat → Nat → Nat} {cI cJ cQ : ClassId} {x0 m0 o0 : Nat} (hl0 : l.stackTraces = false) (C0 : lw_At p s m meth c b L xs) (hK3 : va_K (dC, dI) vwCl [(cI, .int), (cJ, .long), (cQ, .object "NinePortraits$Law")] s) (hV : zV (fun q : Nat => s.heap.size ≤ q) s) (hG : zG (fun q : Nat => s.heap.size ≤ q) s) (hCa : zCa s) (hL : L ≤ 3584) {sg : zSy} {C Rr : va_W} {fo : Nat → Int64} {i : Int32} {H : Heap} {locs : List Loc} {ls : Array Slot} {k n : Nat} (hO : zOkG sg) (hC : zCi cI cJ cQ x0 sg C) (hR : zRi cI m0 sg Rr) (hP : va_P (dC, dI) vwCl (C ++ ((o0, .inl (cJ, 1, .inr (.inl fo))) :: Rr)) H) (hD : va_D (fun q : Nat => s.heap.size ≤ q) (C ++ ((o0, .inl (cJ, 1, .inr (.inl fo))) :: Rr))) (hS : va_S (fun q : Nat => s.heap.size ≤ q) s.heap H locs) (hl : lv_has ls 7 [(0, .ref b), (1, .ref x0), (2, .ref m0), (3, .ref o0), (4, .int i)]) (hi0 : 0 ≤ i.toInt) (hiL : i.toInt + 7 ≤ (L : Int)) (hk : k + 3 ≤ 601024) (hn : n + 300 ≤ 7293034) (J : ∀ (sg : zSy) (C Rr : va_W) (fo : Nat → Int64) (H : Heap) (locs : List Loc) (ls : Array Slot), zOkG sg → zCi cI cJ cQ x0 sg C → zRi cI m0 sg Rr → va_P (dC, dI) vwCl (C ++ ((o0, .inl (cJ, 1, .inr (.inl fo))) :: Rr)) H → va_D (fun q : Nat => s.heap.size ≤ q) (C ++ ((o0, .inl (cJ, 1, .inr (.inl fo))) :: Rr)) → va_S (fun q : Nat => s.heap.size ≤ q) s.heap H locs → lv_has ls 7 [(0, .ref b), (1, .ref x0), (2, .ref m0), (3, .ref o0), (4, .int i)] → W p l e room_1 s m #[Value.ref b] below meth c H locs (k + 3) (n + 300) (lw_Z below #[Value.ref b] s) (F0 m 1797 ls [])) : W p l e room_1 s m #[Value.ref b] below meth c H locs k n (lw_Z below #[Value.ref b] s) (F0 m 940 ls []) := by
  obtain ⟨hx, hb, hr, hml, hown, hts0, hX, hbl, hlocks, hgv⟩ := id C0
  have hts : ∀ w ∈ wA, w.before #[Value.ref b] s = true := fun w h => hts0 w (List.mem_filter.mp h).1
  have hown : s.vm.findClass RL = some m.cls := hown
  have hcf : CallFix p m c code 7 s #[Value.ref b] wA RL := ⟨hx, hb, hml, hown, hts⟩
  have hbA : ¬ (fun q : Nat => s.heap.size ≤ q) b := Nat.not_le.mpr hbl
  refine lv_aload_n hx hb dL_law_940 rfl (lv_at hl 1 rfl) ?_
  refine k_X10_undo (rest := []) hcf hK3 hV hC hO hP hD hS (fun _ h => h) hl.1 (Nat.le_of_ble_eq_true rfl) (by show k + 0 ≤ 601024; omega) (by show n + 0 ≤ 7293034; omega) dL_law_941 (fun v941 C H locs hv1 hC hP hD hS => ?_)
  refine lv_pop hx hb dL_law_944 rfl ?_
  refine lv_aload_n hx hb dL_law_945 rfl (lv_at hl 2 rfl) ?_
  have hP := zRotP hP
  have hD := zRotD hD
  refine k_X11_undo (rest := []) hcf hK3 hV hR hO hP hD hS (fun _ h => h) hl.1 (Nat.le_of_ble_eq_true rfl) (by show k + 0 ≤ 601024; omega) (by show n + 0 ≤ 7293034; omega) dL_law_946 (fun v946 Rr H locs hv2 hR hP hD hS => ?_)
  have hP := zRotP' hP
  have hD := zRotD' hD
  have er : v941.toInt = v946.toInt := hv1.trans hv2.symm
  have hO : zOkG (sg.1, sg.2.1, sg.2.2.1, sg.2.2.2.1, sg.2.2.2.2.1, sT_und sg.2.2.2.2.2.1, sg.2.2.2.2.2.2) := ⟨ok_und hO.1, hO.2⟩
  refine lv_pop hx hb dL_law_949 rfl ?_
  refine lv_goto (tgt := 1797) hx hb dL_law_950 (by decide) ?_
  refine W.widen (k := k + 3) (n := n + 300) (by omega) (by omega) ?_
  exact J _ C Rr fo H locs ls hO hC hR hP hD hS (lv_sub hl [0, 1, 2, 3, 4] rfl)
set_option maxHeartbeats 4000000 in
set_option maxRecDepth 100000 in
theorem law_case_22 {p : Program} {l : Launch} {e : Env} {s : State} {m : MethodId} {below : List Frame} {meth : Method} {c : Code} {b L : Nat} {xs : Nat → Int32} {dC : Nat → ClassId} {dI : Nat → Nat → Nat} {cI cJ cQ : ClassId} {x0 m0 o0 : Nat} (hl0 : l.stackTraces = false) (C0 : lw_At p s m meth c b L xs) (hK3 : va_K (dC, dI) vwCl [(cI, .int), (cJ, .long), (cQ, .object "NinePortraits$Law")] s) (hV : zV (fun q : Nat => s.heap.size ≤ q) s) (hG : zG (fun q : Nat => s.heap.size ≤ q) s) (hCa : zCa s) (hL : L ≤ 3584) {sg : zSy} {C Rr : va_W} {fo : Nat → Int64} {i : Int32} {H : Heap} {locs : List Loc} {ls : Array Slot} {k n : Nat} (hO : zOkG sg) (hC : zCi cI cJ cQ x0 sg C) (hR : zRi cI m0 sg Rr) (hP : va_P (dC, dI) vwCl (C ++ ((o0, .inl (cJ, 1, .inr (.inl fo))) :: Rr)) H) (hD : va_D (fun q : Nat => s.heap.size ≤ q) (C ++ ((o0, .inl (cJ, 1, .inr (.inl fo))) :: Rr))) (hS : va_S (fun q : Nat => s.heap.size ≤ q) s.heap H locs) (hl : lv_has ls 7 [(0, .ref b), (1, .ref x0), (2, .ref m0), (3, .ref o0), (4, .int i)]) (hi0 : 0 ≤ i.toInt) (hiL : i.toInt + 7 ≤ (L : Int)) (hk : k + 3 ≤ 601024) (hn : n + 300 ≤ 7293034) (J : ∀ (sg : zSy) (C Rr : va_W) (fo : Nat → Int64) (H : Heap) (locs : List Loc) (ls : Array Slot), zOkG sg → zCi cI cJ cQ x0 sg C → zRi cI m0 sg Rr → va_P (dC, dI) vwCl (C ++ ((o0, .inl (cJ, 1, .inr (.inl fo))) :: Rr)) H → va_D (fun q : Nat => s.heap.size ≤ q) (C ++ ((o0, .inl (cJ, 1, .inr (.inl fo))) :: Rr)) → va_S (fun q : Nat => s.heap.size ≤ q) s.heap H locs → lv_has ls 7 [(0, .ref b), (1, .ref x0), (2, .ref m0), (3, .ref o0), (4, .int i)] → W p l e room_1 s m #[Value.ref b] below meth c H locs (k + 3) (n + 300) (lw_Z below #[Value.ref b] s) (F0 m 1797 ls [])) : W p l e room_1 s m #[Value.ref b] below meth c H locs k n (lw_Z below #[Value.ref b] s) (F0 m 953 ls []) := by
  obtain ⟨hx, hb, hr, hml, hown, hts0, hX, hbl, hlocks, hgv⟩ := id C0
  have hts : ∀ w ∈ wA, w.before #[Value.ref b] s = true := fun w h => hts0 w (List.mem_filter.mp h).1
  have hown : s.vm.findClass RL = some m.cls := hown
  have hcf : CallFix p m c code 7 s #[Value.ref b] wA RL := ⟨hx, hb, hml, hown, hts⟩
  have hbA : ¬ (fun q : Nat => s.heap.size ≤ q) b := Nat.not_le.mpr hbl
  refine lv_aload_n hx hb dL_law_953 rfl (lv_at hl 1 rfl) ?_
  refine lv_aload_n hx hb dL_law_954 rfl (lv_at hl 0 rfl) ?_
  refine lv_iload hx hb dL_law_955 (lv_at hl 4 rfl) ?_
  refine lv_iconst (v := 1) hx hb dL_law_957 (by decide) ?_
  refine lv_iadd hx hb dL_law_958 ?_
  refine lv_topi (fun v958 e958 => ?_)
  have i958 : v958.toInt = i.toInt + 1 := zadd e958 rfl (by decide) (by omega) (by omega)
  refine va_sld hx hb hX hbl hbA hS (vp_in_iff.mpr ⟨by omega, by omega⟩) dL_law_959 ?_
  refine lv_topi (fun v959 e959 => ?_)
  refine lv_aload_n hx hb dL_law_960 rfl (lv_at hl 0 rfl) ?_
  refine lv_iload hx hb dL_law_961 (lv_at hl 4 rfl) ?_
  refine lv_iconst (v := 2) hx hb dL_law_963 (by decide) ?_
  refine lv_iadd hx hb dL_law_964 ?_
  refine lv_topi (fun v964 e964 => ?_)
  have i964 : v964.toInt = i.toInt + 2 := zadd e964 rfl (by decide) (by omega) (by omega)
  refine va_sld hx hb hX hbl hbA hS (vp_in_iff.mpr ⟨by omega, by omega⟩) dL_law_965 ?_
  refine lv_topi (fun v965 e965 => ?_)
  refine k_X10_portrait (rest := []) hcf hK3 hV hC hO hP hD hS (fun _ h => h) hl.1 (Nat.le_of_ble_eq_true rfl) (by show k + 0 ≤ 601024; omega) (by show n + 0 ≤ 7293034; omega) dL_law_966 (fun v966 C H locs hv1 hC hP hD hS => ?_)
  refine lv_pop hx hb dL_law_969 rfl ?_
  refine lv_aload_n hx hb dL_law_970 rfl (lv_at hl 2 rfl) ?_
  refine lv_aload_n hx hb dL_law_971 rfl (lv_at hl 0 rfl) ?_
  refine lv_iload hx hb dL_law_972 (lv_at hl 4 rfl) ?_
  refine lv_iconst (v := 1) hx hb dL_law_974 (by decide) ?_
  refine lv_iadd hx hb dL_law_975 ?_
  refine lv_topi (fun v975 e975 => ?_)
  have i975 : v975.toInt = i.toInt + 1 := zadd e975 rfl (by decide) (by omega) (by omega)
  refine va_sld hx hb hX hbl hbA hS (vp_in_iff.mpr ⟨by omega, by omega⟩) dL_law_976 ?_
  refine lv_topi (fun v976 e976 => ?_)
  refine lv_aload_n hx hb dL_law_977 rfl (lv_at hl 0 rfl) ?_
  refine lv_iload hx hb dL_law_978 (lv_at hl 4 rfl) ?_
  refine lv_iconst (v := 2) hx hb dL_law_980 (by decide) ?_
  refine lv_iadd hx hb dL_law_981 ?_
  refine lv_topi (fun v981 e981 => ?_)
  have i981 : v981.toInt = i.toInt + 2 := zadd e981 rfl (by decide) (by omega) (by omega)
  refine va_sld hx hb hX hbl hbA hS (vp_in_iff.mpr ⟨by omega, by omega⟩) dL_law_982 ?_
  refine lv_topi (fun v982 e982 => ?_)
  have hP := zRotP hP
  have hD := zRotD hD
  refine k_X11_portrait (rest := []) hcf hK3 hV hR hO hP hD hS (fun _ h => h) hl.1 (Nat.le_of_ble_eq_true rfl) (by show k + 0 ≤ 601024; omega) (by show n + 0 ≤ 7293034; omega) dL_law_983 (fun v983 Rr H locs hv2 hR hP hD hS => ?_)
  have hP := zRotP' hP
  have hD := zRotD' hD
  have ev0 : v976 = v959 := by rw [e976, e959, e975, e958]
  rw [ev0] at hv2
  have ev1 : v982 = v965 := by rw [e982, e965, e981, e964]
  rw [ev1] at hv2
  have er : v966.toInt = v983.toInt := congrArg Int32.toInt (hv1.trans hv2.symm)
  refine lv_pop hx hb dL_law_986 rfl ?_
  refine lv_goto (tgt := 1797) hx hb dL_law_987 (by decide) ?_
  refine W.widen (k := k + 3) (n := n + 300) (by omega) (by omega) ?_
  exact J _ C Rr fo H locs ls hO hC hR hP hD hS (lv_sub hl [0, 1, 2, 3, 4] rfl)
set_option maxHeartbeats 4000000 in
set_option maxRecDepth 100000 in
theorem law_case_23 {p : Program} {l : Launch} {e : Env} {s : State} {m : MethodId} {below : List Frame} {meth : Method} {c : Code} {b L : Nat} {xs : Nat → Int32} {dC : Nat → ClassId} {dI : Nat → Nat → Nat} {cI cJ cQ : ClassId} {x0 m0 o0 : Nat} (hl0 : l.stackTraces = false) (C0 : lw_At p s m meth c b L xs) (hK3 : va_K (dC, dI) vwCl [(cI, .int), (cJ, .long), (cQ, .object "NinePortraits$Law")] s) (hV : zV (fun q : Nat => s.heap.size ≤ q) s) (hG : zG (fun q : Nat => s.heap.size ≤ q) s) (hCa : zCa s) (hL : L ≤ 3584) {sg : zSy} {C Rr : va_W} {fo : Nat → Int64} {i : Int32} {H : Heap} {locs : List Loc} {ls : Array Slot} {k n : Nat} (hO : zOkG sg) (hC : zCi cI cJ cQ x0 sg C) (hR : zRi cI m0 sg Rr) (hP : va_P (dC, dI) vwCl (C ++ ((o0, .inl (cJ, 1, .inr (.inl fo))) :: Rr)) H) (hD : va_D (fun q : Nat => s.heap.size ≤ q) (C ++ ((o0, .inl (cJ, 1, .inr (.inl fo))) :: Rr))) (hS : va_S (fun q : Nat => s.heap.size ≤ q) s.heap H locs) (hl : lv_has ls 7 [(0, .ref b), (1, .ref x0), (2, .ref m0), (3, .ref o0), (4, .int i)]) (hi0 : 0 ≤ i.toInt) (hiL : i.toInt + 7 ≤ (L : Int)) (hk : k + 3 ≤ 601024) (hn : n + 300 ≤ 7293034) (J : ∀ (sg : zSy) (C Rr : va_W) (fo : Nat → Int64) (H : Heap) (locs : List Loc) (ls : Array Slot), zOkG sg → zCi cI cJ cQ x0 sg C → zRi cI m0 sg Rr → va_P (dC, dI) vwCl (C ++ ((o0, .inl (cJ, 1, .inr (.inl fo))) :: Rr)) H → va_D (fun q : Nat => s.heap.size ≤ q) (C ++ ((o0, .inl (cJ, 1, .inr (.inl fo))) :: Rr)) → va_S (fun q : Nat => s.heap.size ≤ q) s.heap H locs → lv_has ls 7 [(0, .ref b), (1, .ref x0), (2, .ref m0), (3, .ref o0), (4, .int i)] → W p l e room_1 s m #[Value.ref b] below meth c H locs (k + 3) (n + 300) (lw_Z below #[Value.ref b] s) (F0 m 1797 ls [])) : W p l e room_1 s m #[Value.ref b] below meth c H locs k n (lw_Z below #[Value.ref b] s) (F0 m 990 ls []) := by
  obtain ⟨hx, hb, hr, hml, hown, hts0, hX, hbl, hlocks, hgv⟩ := id C0
  have hts : ∀ w ∈ wA, w.before #[Value.ref b] s = true := fun w h => hts0 w (List.mem_filter.mp h).1
  have hown : s.vm.findClass RL = some m.cls := hown
  have hcf : CallFix p m c code 7 s #[Value.ref b] wA RL := ⟨hx, hb, hml, hown, hts⟩
  have hbA : ¬ (fun q : Nat => s.heap.size ≤ q) b := Nat.not_le.mpr hbl
  refine lv_aload_n hx hb dL_law_990 rfl (lv_at hl 1 rfl) ?_
  refine lv_aload_n hx hb dL_law_991 rfl (lv_at hl 0 rfl) ?_
  refine lv_iload hx hb dL_law_992 (lv_at hl 4 rfl) ?_
  refine lv_iconst (v := 1) hx hb dL_law_994 (by decide) ?_
  refine lv_iadd hx hb dL_law_995 ?_
  refine lv_topi (fun v995 e995 => ?_)
  have i995 : v995.toInt = i.toInt + 1 := zadd e995 rfl (by decide) (by omega) (by omega)
  refine va_sld hx hb hX hbl hbA hS (vp_in_iff.mpr ⟨by omega, by omega⟩) dL_law_996 ?_
  refine lv_topi (fun v996 e996 => ?_)
  refine k_X10_fits (rest := []) hcf hK3 hV hC hO hP hD hS (fun _ h => h) hl.1 (Nat.le_of_ble_eq_true rfl) (by show k + 0 ≤ 601024; omega) (by show n + 0 ≤ 7293034; omega) dL_law_997 (fun v997 C H locs hv1 hC hP hD hS => ?_)
  refine lv_pop hx hb dL_law_1000 rfl ?_
  refine lv_aload_n hx hb dL_law_1001 rfl (lv_at hl 2 rfl) ?_
  refine lv_aload_n hx hb dL_law_1002 rfl (lv_at hl 0 rfl) ?_
  refine lv_iload hx hb dL_law_1003 (lv_at hl 4 rfl) ?_
  refine lv_iconst (v := 1) hx hb dL_law_1005 (by decide) ?_
  refine lv_iadd hx hb dL_law_1006 ?_
  refine lv_topi (fun v1006 e1006 => ?_)
  have i1006 : v1006.toInt = i.toInt + 1 := zadd e1006 rfl (by decide) (by omega) (by omega)
  refine va_sld hx hb hX hbl hbA hS (vp_in_iff.mpr ⟨by omega, by omega⟩) dL_law_1007 ?_
  refine lv_topi (fun v1007 e1007 => ?_)
  have hP := zRotP hP
  have hD := zRotD hD
  refine k_X11_fits (rest := []) hcf hK3 hV hR hO hP hD hS (fun _ h => h) hl.1 (Nat.le_of_ble_eq_true rfl) (by show k + 0 ≤ 601024; omega) (by show n + 0 ≤ 7293034; omega) dL_law_1008 (fun v1008 Rr H locs hv2 hR hP hD hS => ?_)
  have hP := zRotP' hP
  have hD := zRotD' hD
  have ev0 : v1007 = v996 := by rw [e1007, e996, e1006, e995]
  rw [ev0] at hv2
  have er : v997.toInt = v1008.toInt := congrArg Int32.toInt (hv1.trans hv2.symm)
  refine lv_pop hx hb dL_law_1011 rfl ?_
  refine lv_goto (tgt := 1797) hx hb dL_law_1012 (by decide) ?_
  refine W.widen (k := k + 3) (n := n + 300) (by omega) (by omega) ?_
  exact J _ C Rr fo H locs ls hO hC hR hP hD hS (lv_sub hl [0, 1, 2, 3, 4] rfl)
