set_option maxHeartbeats 4000000 in
set_option maxRecDepth 100000 in
theorem law_case_24 {p : Program} {l : Launch} {e : Env} {s : State} {m : MethodId} {below : List Frame} {meth : Method} {c : Code} {b L : Nat} {xs : Nat → Int32} {dC : Nat → ClassId} {dI : Nat → Nat → Nat} {cI cJ cQ : ClassId} {x0 m0 o0 : Nat} (hl0 : l.stackTraces = false) (C0 : lw_At p s m meth c b L xs) (hK3 : va_K (dC, dI) vwCl [(cI, .int), (cJ, .long), (cQ, .object "NinePortraits$Law")] s) (hV : zV (fun q : Nat => s.heap.size ≤ q) s) (hG : zG (fun q : Nat => s.heap.size ≤ q) s) (hCa : zCa s) (hL : L ≤ 3584) {sg : zSy} {C Rr : va_W} {fo : Nat → Int64} {i : Int32} {H : Heap} {locs : List Loc} {ls : Array Slot} {k n : Nat} (hO : zOkG sg) (hC : zCi cI cJ cQ x0 sg C) (hR : zRi cI m0 sg Rr) (hP : va_P (dC, dI) vwCl (C ++ ((o0, .inl (cJ, 1, .inr (.inl fo))) :: Rr)) H) (hD : va_D (fun q : Nat => s.heap.size ≤ q) (C ++ ((o0, .inl (cJ, 1, .inr (.inl fo))) :: Rr))) (hS : va_S (fun q : Nat => s.heap.size ≤ q) s.heap H locs) (hl : lv_has ls 7 [(0, .ref b), (1, .ref x0), (2, .ref m0), (3, .ref o0), (4, .int i)]) (hi0 : 0 ≤ i.toInt) (hiL : i.toInt + 7 ≤ (L : Int)) (hk : k + 3 ≤ 601024) (hn : n + 300 ≤ 7293034) (J : ∀ (sg : zSy) (C Rr : va_W) (fo : Nat → Int64) (H : Heap) (locs : List Loc) (ls : Array Slot), zOkG sg → zCi cI cJ cQ x0 sg C → zRi cI m0 sg Rr → va_P (dC, dI) vwCl (C ++ ((o0, .inl (cJ, 1, .inr (.inl fo))) :: Rr)) H → va_D (fun q : Nat => s.heap.size ≤ q) (C ++ ((o0, .inl (cJ, 1, .inr (.inl fo))) :: Rr)) → va_S (fun q : Nat => s.heap.size ≤ q) s.heap H locs → lv_has ls 7 [(0, .ref b), (1, .ref x0), (2, .ref m0), (3, .ref o0), (4, .int i)] → W p l e room_1 s m #[Value.ref b] below meth c H locs (k + 3) (n + 300) (lw_Z below #[Value.ref b] s) (F0 m 1825 ls [])) : W p l e room_1 s m #[Value.ref b] below meth c H locs k n (lw_Z below #[Value.ref b] s) (F0 m 1043 ls []) := by
  obtain ⟨hx, hb, hr, hml, hown, hts0, hX, hbl, hlocks, hgv⟩ := id C0
  have hts : ∀ w ∈ wA, w.before #[Value.ref b] s = true := fun w h => hts0 w (List.mem_filter.mp h).1
  have hown : s.vm.findClass RL = some m.cls := hown
  have hcf : CallFix p m c code 7 s #[Value.ref b] wA RL := ⟨hx, hb, hml, hown, hts⟩
  have hbA : ¬ (fun q : Nat => s.heap.size ≤ q) b := Nat.not_le.mpr hbl
  refine lv_aload_n hx hb dL_law_1043 rfl (lv_at hl 1 rfl) ?_
  refine lv_aload_n hx hb dL_law_1044 rfl (lv_at hl 0 rfl) ?_
  refine lv_iload hx hb dL_law_1045 (lv_at hl 4 rfl) ?_
  refine lv_iconst (v := 1) hx hb dL_law_1047 (by decide) ?_
  refine lv_iadd hx hb dL_law_1048 ?_
  refine lv_topi (fun v1048 e1048 => ?_)
  have i1048 : v1048.toInt = i.toInt + 1 := zadd e1048 rfl (by decide) (by omega) (by omega)
  refine va_sld hx hb hX hbl hbA hS (vp_in_iff.mpr ⟨by omega, by omega⟩) dL_law_1049 ?_
  refine lv_topi (fun v1049 e1049 => ?_)
  refine lv_aload_n hx hb dL_law_1050 rfl (lv_at hl 0 rfl) ?_
  refine lv_iload hx hb dL_law_1051 (lv_at hl 4 rfl) ?_
  refine lv_iconst (v := 2) hx hb dL_law_1053 (by decide) ?_
  refine lv_iadd hx hb dL_law_1054 ?_
  refine lv_topi (fun v1054 e1054 => ?_)
  have i1054 : v1054.toInt = i.toInt + 2 := zadd e1054 rfl (by decide) (by omega) (by omega)
  refine va_sld hx hb hX hbl hbA hS (vp_in_iff.mpr ⟨by omega, by omega⟩) dL_law_1055 ?_
  refine lv_topi (fun v1055 e1055 => ?_)
  refine k_X10_belief (rest := []) hcf hK3 hV hC hO hP hD hS (fun _ h => h) hl.1 (Nat.le_of_ble_eq_true rfl) (by show k + 0 ≤ 601024; omega) (by show n + 0 ≤ 7293034; omega) dL_law_1056 (fun v1056 C H locs hv1 hC hP hD hS => ?_)
  refine lv_pop hx hb dL_law_1059 rfl ?_
  refine lv_aload_n hx hb dL_law_1060 rfl (lv_at hl 2 rfl) ?_
  refine lv_aload_n hx hb dL_law_1061 rfl (lv_at hl 0 rfl) ?_
  refine lv_iload hx hb dL_law_1062 (lv_at hl 4 rfl) ?_
  refine lv_iconst (v := 1) hx hb dL_law_1064 (by decide) ?_
  refine lv_iadd hx hb dL_law_1065 ?_
  refine lv_topi (fun v1065 e1065 => ?_)
  have i1065 : v1065.toInt = i.toInt + 1 := zadd e1065 rfl (by decide) (by omega) (by omega)
  refine va_sld hx hb hX hbl hbA hS (vp_in_iff.mpr ⟨by omega, by omega⟩) dL_law_1066 ?_
  refine lv_topi (fun v1066 e1066 => ?_)
  refine lv_aload_n hx hb dL_law_1067 rfl (lv_at hl 0 rfl) ?_
  refine lv_iload hx hb dL_law_1068 (lv_at hl 4 rfl) ?_
  refine lv_iconst (v := 2) hx hb dL_law_1070 (by decide) ?_
  refine lv_iadd hx hb dL_law_1071 ?_
  refine lv_topi (fun v1071 e1071 => ?_)
  have i1071 : v1071.toInt = i.toInt + 2 := zadd e1071 rfl (by decide) (by omega) (by omega)
  refine va_sld hx hb hX hbl hbA hS (vp_in_iff.mpr ⟨by omega, by omega⟩) dL_law_1072 ?_
  refine lv_topi (fun v1072 e1072 => ?_)
  have hP := zRotP hP
  have hD := zRotD hD
  refine k_X11_belief (rest := []) hcf hK3 hV hR hO hP hD hS (fun _ h => h) hl.1 (Nat.le_of_ble_eq_true rfl) (by show k + 0 ≤ 601024; omega) (by show n + 0 ≤ 7293034; omega) dL_law_1073 (fun v1073 Rr H locs hv2 hR hP hD hS => ?_)
  have hP := zRotP' hP
  have hD := zRotD' hD
  have ev0 : v1066 = v1049 := by rw [e1066, e1049, e1065, e1048]
  rw [ev0] at hv2
  have ev1 : v1072 = v1055 := by rw [e1072, e1055, e1071, e1054]
  rw [ev1] at hv2
  have er : v1056.toInt = v1073.toInt := congrArg Int32.toInt (hv1.trans hv2.symm)
  refine lv_pop hx hb dL_law_1076 rfl ?_
  refine lv_goto (tgt := 1825) hx hb dL_law_1077 (by decide) ?_
  refine W.widen (k := k + 3) (n := n + 300) (by omega) (by omega) ?_
  exact J _ C Rr fo H locs ls hO hC hR hP hD hS (lv_sub hl [0, 1, 2, 3, 4] rfl)
set_option maxHeartbeats 4000000 in
set_option maxRecDepth 100000 in
theorem law_case_25 {p : Program} {l : Launch} {e : Env} {s : State} {m : MethodId} {below : List Frame} {meth : Method} {c : Code} {b L : Nat} {xs : Nat → Int32} {dC : Nat → ClassId} {dI : Nat → Nat → Nat} {cI cJ cQ : ClassId} {x0 m0 o0 : Nat} (hl0 : l.stackTraces = false) (C0 : lw_At p s m meth c b L xs) (hK3 : va_K (dC, dI) vwCl [(cI, .int), (cJ, .long), (cQ, .object "NinePortraits$Law")] s) (hV : zV (fun q : Nat => s.heap.size ≤ q) s) (hG : zG (fun q : Nat => s.heap.size ≤ q) s) (hCa : zCa s) (hL : L ≤ 3584) {sg : zSy} {C Rr : va_W} {fo : Nat → Int64} {i : Int32} {H : Heap} {locs : List Loc} {ls : Array Slot} {k n : Nat} (hO : zOkG sg) (hC : zCi cI cJ cQ x0 sg C) (hR : zRi cI m0 sg Rr) (hP : va_P (dC, dI) vwCl (C ++ ((o0, .inl (cJ, 1, .inr (.inl fo))) :: Rr)) H) (hD : va_D (fun q : Nat => s.heap.size ≤ q) (C ++ ((o0, .inl (cJ, 1, .inr (.inl fo))) :: Rr))) (hS : va_S (fun q : Nat => s.heap.size ≤ q) s.heap H locs) (hl : lv_has ls 7 [(0, .ref b), (1, .ref x0), (2, .ref m0), (3, .ref o0), (4, .int i)]) (hi0 : 0 ≤ i.toInt) (hiL : i.toInt + 7 ≤ (L : Int)) (hk : k + 3 ≤ 601024) (hn : n + 300 ≤ 7293034) (J : ∀ (sg : zSy) (C Rr : va_W) (fo : Nat → Int64) (H : Heap) (locs : List Loc) (ls : Array Slot), zOkG sg → zCi cI cJ cQ x0 sg C → zRi cI m0 sg Rr → va_P (dC, dI) vwCl (C ++ ((o0, .inl (cJ, 1, .inr (.inl fo))) :: Rr)) H → va_D (fun q : Nat => s.heap.size ≤ q) (C ++ ((o0, .inl (cJ, 1, .inr (.inl fo))) :: Rr)) → va_S (fun q : Nat => s.heap.size ≤ q) s.heap H locs → lv_has ls 7 [(0, .ref b), (1, .ref x0), (2, .ref m0), (3, .ref o0), (4, .int i)] → W p l e room_1 s m #[Value.ref b] below meth c H locs (k + 3) (n + 300) (lw_Z below #[Value.ref b] s) (F0 m 1825 ls [])) : W p l e room_1 s m #[Value.ref b] below meth c H locs k n (lw_Z below #[Value.ref b] s) (F0 m 1080 ls []) := by
  obtain ⟨hx, hb, hr, hml, hown, hts0, hX, hbl, hlocks, hgv⟩ := id C0
  have hts : ∀ w ∈ wA, w.before #[Value.ref b] s = true := fun w h => hts0 w (List.mem_filter.mp h).1
  have hown : s.vm.findClass RL = some m.cls := hown
  have hcf : CallFix p m c code 7 s #[Value.ref b] wA RL := ⟨hx, hb, hml, hown, hts⟩
  have hbA : ¬ (fun q : Nat => s.heap.size ≤ q) b := Nat.not_le.mpr hbl
  refine lv_aload_n hx hb dL_law_1080 rfl (lv_at hl 1 rfl) ?_
  refine lv_aload_n hx hb dL_law_1081 rfl (lv_at hl 0 rfl) ?_
  refine lv_iload hx hb dL_law_1082 (lv_at hl 4 rfl) ?_
  refine lv_iconst (v := 1) hx hb dL_law_1084 (by decide) ?_
  refine lv_iadd hx hb dL_law_1085 ?_
  refine lv_topi (fun v1085 e1085 => ?_)
  have i1085 : v1085.toInt = i.toInt + 1 := zadd e1085 rfl (by decide) (by omega) (by omega)
  refine va_sld hx hb hX hbl hbA hS (vp_in_iff.mpr ⟨by omega, by omega⟩) dL_law_1086 ?_
  refine lv_topi (fun v1086 e1086 => ?_)
  refine lv_aload_n hx hb dL_law_1087 rfl (lv_at hl 0 rfl) ?_
  refine lv_iload hx hb dL_law_1088 (lv_at hl 4 rfl) ?_
  refine lv_iconst (v := 2) hx hb dL_law_1090 (by decide) ?_
  refine lv_iadd hx hb dL_law_1091 ?_
  refine lv_topi (fun v1091 e1091 => ?_)
  have i1091 : v1091.toInt = i.toInt + 2 := zadd e1091 rfl (by decide) (by omega) (by omega)
  refine va_sld hx hb hX hbl hbA hS (vp_in_iff.mpr ⟨by omega, by omega⟩) dL_law_1092 ?_
  refine lv_topi (fun v1092 e1092 => ?_)
  refine k_X10_likely (rest := []) hcf hK3 hV hC hO hP hD hS (fun _ h => h) hl.1 (Nat.le_of_ble_eq_true rfl) (by show k + 0 ≤ 601024; omega) (by show n + 0 ≤ 7293034; omega) dL_law_1093 (fun v1093 C H locs hv1 hC hP hD hS => ?_)
  refine lv_pop hx hb dL_law_1096 rfl ?_
  refine lv_aload_n hx hb dL_law_1097 rfl (lv_at hl 2 rfl) ?_
  refine lv_aload_n hx hb dL_law_1098 rfl (lv_at hl 0 rfl) ?_
  refine lv_iload hx hb dL_law_1099 (lv_at hl 4 rfl) ?_
  refine lv_iconst (v := 1) hx hb dL_law_1101 (by decide) ?_
  refine lv_iadd hx hb dL_law_1102 ?_
  refine lv_topi (fun v1102 e1102 => ?_)
  have i1102 : v1102.toInt = i.toInt + 1 := zadd e1102 rfl (by decide) (by omega) (by omega)
  refine va_sld hx hb hX hbl hbA hS (vp_in_iff.mpr ⟨by omega, by omega⟩) dL_law_1103 ?_
  refine lv_topi (fun v1103 e1103 => ?_)
  refine lv_aload_n hx hb dL_law_1104 rfl (lv_at hl 0 rfl) ?_
  refine lv_iload hx hb dL_law_1105 (lv_at hl 4 rfl) ?_
  refine lv_iconst (v := 2) hx hb dL_law_1107 (by decide) ?_
  refine lv_iadd hx hb dL_law_1108 ?_
  refine lv_topi (fun v1108 e1108 => ?_)
  have i1108 : v1108.toInt = i.toInt + 2 := zadd e1108 rfl (by decide) (by omega) (by omega)
  refine va_sld hx hb hX hbl hbA hS (vp_in_iff.mpr ⟨by omega, by omega⟩) dL_law_1109 ?_
  refine lv_topi (fun v1109 e1109 => ?_)
  have hP := zRotP hP
  have hD := zRotD hD
  refine k_X11_likely (rest := []) hcf hK3 hV hR hO hP hD hS (fun _ h => h) hl.1 (Nat.le_of_ble_eq_true rfl) (by show k + 0 ≤ 601024; omega) (by show n + 0 ≤ 7293034; omega) dL_law_1110 (fun v1110 Rr H locs hv2 hR hP hD hS => ?_)
  have hP := zRotP' hP
  have hD := zRotD' hD
  have ev0 : v1103 = v1086 := by rw [e1103, e1086, e1102, e1085]
  rw [ev0] at hv2
  have ev1 : v1109 = v1092 := by rw [e1109, e1092, e1108, e1091]
  rw [ev1] at hv2
  have er : v1093.toInt = v1110.toInt := congrArg Int32.toInt (hv1.trans hv2.symm)
  refine lv_pop hx hb dL_law_1113 rfl ?_
  refine lv_goto (tgt := 1825) hx hb dL_law_1114 (by decide) ?_
  refine W.widen (k := k + 3) (n := n + 300) (by omega) (by omega) ?_
  exact J _ C Rr fo H locs ls hO hC hR hP hD hS (lv_sub hl [0, 1, 2, 3, 4] rfl)
set_option maxHeartbeats 4000000 in
set_option maxRecDepth 100000 in
theorem law_case_26 {p : Program} {l : Launch} {e : Env} {s : State} {m : MethodId} {below : List Frame} {meth : Method} {c : Code} {b L : Nat} {xs : Nat → Int32} {dC : Nat → ClassId} {dI : Nat → Nat → Nat} {cI cJ cQ : ClassId} {x0 m0 o0 : Nat} (hl0 : l.stackTraces = false) (C0 : lw_At p s m meth c b L xs) (hK3 : va_K (dC, dI) vwCl [(cI, .int), (cJ, .long), (cQ, .object "NinePortraits$Law")] s) (hV : zV (fun q : Nat => s.heap.size ≤ q) s) (hG : zG (fun q : Nat => s.heap.size ≤ q) s) (hCa : zCa s) (hL : L ≤ 3584) {sg : zSy} {C Rr : va_W} {fo : Nat → Int64} {i : Int32} {H : Heap} {locs : List Loc} {ls : Array Slot} {k n : Nat} (hO : zOkG sg) (hC : zCi cI cJ cQ x0 sg C) (hR : zRi cI m0 sg Rr) (hP : va_P (dC, dI) vwCl (C ++ ((o0, .inl (cJ, 1, .inr (.inl fo))) :: Rr)) H) (hD : va_D (fun q : Nat => s.heap.size ≤ q) (C ++ ((o0, .inl (cJ, 1, .inr (.inl fo))) :: Rr))) (hS : va_S (fun q : Nat => s.heap.size ≤ q) s.heap H locs) (hl : lv_has ls 7 [(0, .ref b), (1, .ref x0), (2, .ref m0), (3, .ref o0), (4, .int i)]) (hi0 : 0 ≤ i.toInt) (hiL : i.toInt + 7 ≤ (L : Int)) (hk : k + 3 ≤ 601024) (hn : n + 300 ≤ 7293034) (J : ∀ (sg : zSy) (C Rr : va_W) (fo : Nat → Int64) (H : Heap) (locs : List Loc) (ls : Array Slot), zOkG sg → zCi cI cJ cQ x0 sg C → zRi cI m0 sg Rr → va_P (dC, dI) vwCl (C ++ ((o0, .inl (cJ, 1, .inr (.inl fo))) :: Rr)) H → va_D (fun q : Nat => s.heap.size ≤ q) (C ++ ((o0, .inl (cJ, 1, .inr (.inl fo))) :: Rr)) → va_S (fun q : Nat => s.heap.size ≤ q) s.heap H locs → lv_has ls 7 [(0, .ref b), (1, .ref x0), (2, .ref m0), (3, .ref o0), (4, .int i)] → W p l e room_1 s m #[Value.ref b] below meth c H locs (k + 3) (n + 300) (lw_Z below #[Value.ref b] s) (F0 m 1825 ls [])) : W p l e room_1 s m #[Value.ref b] below meth c H locs k n (lw_Z below #[Value.ref b] s) (F0 m 1117 ls []) := by
  obtain ⟨hx, hb, hr, hml, hown, hts0, hX, hbl, hlocks, hgv⟩ := id C0
  have hts : ∀ w ∈ wA, w.before #[Value.ref b] s = true := fun w h => hts0 w (List.mem_filter.mp h).1
  have hown : s.vm.findClass RL = some m.cls := hown
  have hcf : CallFix p m c code 7 s #[Value.ref b] wA RL := ⟨hx, hb, hml, hown, hts⟩
  have hbA : ¬ (fun q : Nat => s.heap.size ≤ q) b := Nat.not_le.mpr hbl
  refine lv_aload_n hx hb dL_law_1117 rfl (lv_at hl 1 rfl) ?_
  refine lv_aload_n hx hb dL_law_1118 rfl (lv_at hl 0 rfl) ?_
  refine lv_iload hx hb dL_law_1119 (lv_at hl 4 rfl) ?_
  refine lv_iconst (v := 1) hx hb dL_law_1121 (by decide) ?_
  refine lv_iadd hx hb dL_law_1122 ?_
  refine lv_topi (fun v1122 e1122 => ?_)
  have i1122 : v1122.toInt = i.toInt + 1 := zadd e1122 rfl (by decide) (by omega) (by omega)
  refine va_sld hx hb hX hbl hbA hS (vp_in_iff.mpr ⟨by omega, by omega⟩) dL_law_1123 ?_
  refine lv_topi (fun v1123 e1123 => ?_)
  refine lv_aload_n hx hb dL_law_1124 rfl (lv_at hl 0 rfl) ?_
  refine lv_iload hx hb dL_law_1125 (lv_at hl 4 rfl) ?_
  refine lv_iconst (v := 2) hx hb dL_law_1127 (by decide) ?_
  refine lv_iadd hx hb dL_law_1128 ?_
  refine lv_topi (fun v1128 e1128 => ?_)
  have i1128 : v1128.toInt = i.toInt + 2 := zadd e1128 rfl (by decide) (by omega) (by omega)
  refine va_sld hx hb hX hbl hbA hS (vp_in_iff.mpr ⟨by omega, by omega⟩) dL_law_1129 ?_
  refine lv_topi (fun v1129 e1129 => ?_)
  refine k_X10_sure (rest := []) hcf hK3 hV hC hO hP hD hS (fun _ h => h) hl.1 (Nat.le_of_ble_eq_true rfl) (by show k + 0 ≤ 601024; omega) (by show n + 0 ≤ 7293034; omega) dL_law_1130 (fun v1130 C H locs hv1 hC hP hD hS => ?_)
  refine lv_pop hx hb dL_law_1133 rfl ?_
  refine lv_aload_n hx hb dL_law_1134 rfl (lv_at hl 2 rfl) ?_
  refine lv_aload_n hx hb dL_law_1135 rfl (lv_at hl 0 rfl) ?_
  refine lv_iload hx hb dL_law_1136 (lv_at hl 4 rfl) ?_
  refine lv_iconst (v := 1) hx hb dL_law_1138 (by decide) ?_
  refine lv_iadd hx hb dL_law_1139 ?_
  refine lv_topi (fun v1139 e1139 => ?_)
  have i1139 : v1139.toInt = i.toInt + 1 := zadd e1139 rfl (by decide) (by omega) (by omega)
  refine va_sld hx hb hX hbl hbA hS (vp_in_iff.mpr ⟨by omega, by omega⟩) dL_law_1140 ?_
  refine lv_topi (fun v1140 e1140 => ?_)
  refine lv_aload_n hx hb dL_law_1141 rfl (lv_at hl 0 rfl) ?_
  refine lv_iload hx hb dL_law_1142 (lv_at hl 4 rfl) ?_
  refine lv_iconst (v := 2) hx hb dL_law_1144 (by decide) ?_
  refine lv_iadd hx hb dL_law_1145 ?_
  refine lv_topi (fun v1145 e1145 => ?_)
  have i1145 : v1145.toInt = i.toInt + 2 := zadd e1145 rfl (by decide) (by omega) (by omega)
  refine va_sld hx hb hX hbl hbA hS (vp_in_iff.mpr ⟨by omega, by omega⟩) dL_law_1146 ?_
  refine lv_topi (fun v1146 e1146 => ?_)
  have hP := zRotP hP
  have hD := zRotD hD
  refine k_X11_sure (rest := []) hcf hK3 hV hR hO hP hD hS (fun _ h => h) hl.1 (Nat.le_of_ble_eq_true rfl) (by show k + 0 ≤ 601024; omega) (by show n + 0 ≤ 7293034; omega) dL_law_1147 (fun v1147 Rr H locs hv2 hR hP hD hS => ?_)
  have hP := zRotP' hP
  have hD := zRotD' hD
  have ev0 : v1140 = v1123 := by rw [e1140, e1123, e1139, e1122]
  rw [ev0] at hv2
  have ev1 : v1146 = v1129 := by rw [e1146, e1129, e1145, e1128]
  rw [ev1] at hv2
  have er : v1130.toInt = v1147.toInt := congrArg Int32.toInt (hv1.trans hv2.symm)
  refine lv_pop hx hb dL_law_1150 rfl ?_
  refine lv_goto (tgt := 1825) hx hb dL_law_1151 (by decide) ?_
  refine W.widen (k := k + 3) (n := n + 300) (by omega) (by omega) ?_
  exact J _ C Rr fo H locs ls hO hC hR hP hD hS (lv_sub hl [0, 1, 2, 3, 4] rfl)
set_option maxHeartbeats 4000000 in
set_option maxRecDepth 100000 in
theorem law_case_27 {p : Program} {l : Launch} {e : Env} {s : State} {m : MethodId} {below : List Frame} {meth : Method} {c : Code} {b L : Nat} {xs : Nat → Int32} {dC : Nat → ClassId} {dI : Nat → Nat → Nat} {cI cJ cQ : ClassId} {x0 m0 o0 : Nat} (hl0 : l.stackTraces = false) (C0 : lw_At p s m meth c b L xs) (hK3 : va_K (dC, dI) vwCl [(cI, .int), (cJ, .long), (cQ, .object "NinePortraits$Law")] s) (hV : zV (fun q : Nat => s.heap.size ≤ q) s) (hG : zG (fun q : Nat => s.heap.size ≤ q) s) (hCa : zCa s) (hL : L ≤ 3584) {sg : zSy} {C Rr : va_W} {fo : Nat → Int64} {i : Int32} {H : Heap} {locs : List Loc} {ls : Array Slot} {k n : Nat} (hO : zOkG sg) (hC : zCi cI cJ cQ x0 sg C) (hR : zRi cI m0 sg Rr) (hP : va_P (dC, dI) vwCl (C ++ ((o0, .inl (cJ, 1, .inr (.inl fo))) :: Rr)) H) (hD : va_D (fun q : Nat => s.heap.size ≤ q) (C ++ ((o0, .inl (cJ, 1, .inr (.inl fo))) :: Rr))) (hS : va_S (fun q : Nat => s.heap.size ≤ q) s.heap H locs) (hl : lv_has ls 7 [(0, .ref b), (1, .ref x0), (2, .ref m0), (3, .ref o0), (4, .int i)]) (hi0 : 0 ≤ i.toInt) (hiL : i.toInt + 7 ≤ (L : Int)) (hk : k + 3 ≤ 601024) (hn : n + 300 ≤ 7293034) (J : ∀ (sg : zSy) (C Rr : va_W) (fo : Nat → Int64) (H : Heap) (locs : List Loc) (ls : Array Slot), zOkG sg → zCi cI cJ cQ x0 sg C → zRi cI m0 sg Rr → va_P (dC, dI) vwCl (C ++ ((o0, .inl (cJ, 1, .inr (.inl fo))) :: Rr)) H → va_D (fun q : Nat => s.heap.size ≤ q) (C ++ ((o0, .inl (cJ, 1, .inr (.inl fo))) :: Rr)) → va_S (fun q : Nat => s.heap.size ≤ q) s.heap H locs → lv_has ls 7 [(0, .ref b), (1, .ref x0), (2, .ref m0), (3, .ref o0), (4, .int i)] → W p l e room_1 s m #[Value.ref b] below meth c H locs (k + 3) (n + 300) (lw_Z below #[Value.ref b] s) (F0 m 1825 ls [])) : W p l e room_1 s m #[Value.ref b] below meth c H locs k n (lw_Z below #[Value.ref b] s) (F0 m 1154 ls []) := by
  obtain ⟨hx, hb, hr, hml, hown, hts0, hX, hbl, hlocks, hgv⟩ := id C0
  have hts : ∀ w ∈ wA, w.before #[Value.ref b] s = true := fun w h => hts0 w (List.mem_filter.mp h).1
  have hown : s.vm.findClass RL = some m.cls := hown
  have hcf : CallFix p m c code 7 s #[Value.ref b] wA RL := ⟨hx, hb, hml, hown, hts⟩
  have hbA : ¬ (fun q : Nat => s.heap.size ≤ q) b := Nat.not_le.mpr hbl
  refine lv_aload_n hx hb dL_law_1154 rfl (lv_at hl 1 rfl) ?_
  refine lv_aload_n hx hb dL_law_1155 rfl (lv_at hl 0 rfl) ?_
  refine lv_iload hx hb dL_law_1156 (lv_at hl 4 rfl) ?_
  refine lv_iconst (v := 1) hx hb dL_law_1158 (by decide) ?_
  refine lv_iadd hx hb dL_law_1159 ?_
  refine lv_topi (fun v1159 e1159 => ?_)
  have i1159 : v1159.toInt = i.toInt + 1 := zadd e1159 rfl (by decide) (by omega) (by omega)
  refine va_sld hx hb hX hbl hbA hS (vp_in_iff.mpr ⟨by omega, by omega⟩) dL_law_1160 ?_
  refine lv_topi (fun v1160 e1160 => ?_)
  refine k_X10_next (rest := []) hcf hK3 hV hC hO hP hD hS (fun _ h => h) hl.1 (Nat.le_of_ble_eq_true rfl) (by show k + 0 ≤ 601024; omega) (by show n + 0 ≤ 7293034; omega) dL_law_1161 (fun v1161 C H locs hv1 hC hP hD hS => ?_)
  refine lv_pop hx hb dL_law_1164 rfl ?_
  refine lv_aload_n hx hb dL_law_1165 rfl (lv_at hl 2 rfl) ?_
  refine lv_aload_n hx hb dL_law_1166 rfl (lv_at hl 0 rfl) ?_
  refine lv_iload hx hb dL_law_1167 (lv_at hl 4 rfl) ?_
  refine lv_iconst (v := 1) hx hb dL_law_1169 (by decide) ?_
  refine lv_iadd hx hb dL_law_1170 ?_
  refine lv_topi (fun v1170 e1170 => ?_)
  have i1170 : v1170.toInt = i.toInt + 1 := zadd e1170 rfl (by decide) (by omega) (by omega)
  refine va_sld hx hb hX hbl hbA hS (vp_in_iff.mpr ⟨by omega, by omega⟩) dL_law_1171 ?_
  refine lv_topi (fun v1171 e1171 => ?_)
  have hP := zRotP hP
  have hD := zRotD hD
  refine k_X11_next (rest := []) hcf hK3 hV hR hO hP hD hS (fun _ h => h) hl.1 (Nat.le_of_ble_eq_true rfl) (by show k + 0 ≤ 601024; omega) (by show n + 0 ≤ 7293034; omega) dL_law_1172 (fun v1172 Rr H locs hv2 hR hP hD hS => ?_)
  have hP := zRotP' hP
  have hD := zRotD' hD
  have ev0 : v1171 = v1160 := by rw [e1171, e1160, e1170, e1159]
  rw [ev0] at hv2
  have er : v1161.toInt = v1172.toInt := hv1.trans hv2.symm
  refine lv_pop hx hb dL_law_1175 rfl ?_
  refine lv_goto (tgt := 1825) hx hb dL_law_1176 (by decide) ?_
  refine W.widen (k := k + 3) (n := n + 300) (by omega) (by omega) ?_
  exact J _ C Rr fo H locs ls hO hC hR hP hD hS (lv_sub hl [0, 1, 2, 3, 4] rfl)
set_option maxHeartbeats 4000000 in
set_option maxRecDepth 100000 in
theorem law_case_28 {p : Program} {l : Launch} {e : Env} {s : State} {m : MethodId} {below : List Frame} {meth : Method} {c : Code} {b L : Nat} {xs : Nat → Int32} {dC : Nat → ClassId} {dI : Nat → Nat → Nat} {cI cJ cQ : ClassId} {x0 m0 o0 : Nat} (hl0 : l.stackTraces = false) (C0 : lw_At p s m meth c b L xs) (hK3 : va_K (dC, dI) vwCl [(cI, .int), (cJ, .long), (cQ, .object "NinePortraits$Law")] s) (hV : zV (fun q : Nat => s.heap.size ≤ q) s) (hG : zG (fun q : Nat => s.heap.size ≤ q) s) (hCa : zCa s) (hL : L ≤ 3584) {sg : zSy} {C Rr : va_W} {fo : Nat → Int64} {i : Int32} {H : Heap} {locs : List Loc} {ls : Array Slot} {k n : Nat} (hO : zOkG sg) (hC : zCi cI cJ cQ x0 sg C) (hR : zRi cI m0 sg Rr) (hP : va_P (dC, dI) vwCl (C ++ ((o0, .inl (cJ, 1, .inr (.inl fo))) :: Rr)) H) (hD : va_D (fun q : Nat => s.heap.size ≤ q) (C ++ ((o0, .inl (cJ, 1, .inr (.inl fo))) :: Rr))) (hS : va_S (fun q : Nat => s.heap.size ≤ q) s.heap H locs) (hl : lv_has ls 7 [(0, .ref b), (1, .ref x0), (2, .ref m0), (3, .ref o0), (4, .int i)]) (hi0 : 0 ≤ i.toInt) (hiL : i.toInt + 7 ≤ (L : Int)) (hk : k + 3 ≤ 601024) (hn : n + 300 ≤ 7293034) (J : ∀ (sg : zSy) (C Rr : va_W) (fo : Nat → Int64) (H : Heap) (locs : List Loc) (ls : Array Slot), zOkG sg → zCi cI cJ cQ x0 sg C → zRi cI m0 sg Rr → va_P (dC, dI) vwCl (C ++ ((o0, .inl (cJ, 1, .inr (.inl fo))) :: Rr)) H → va_D (fun q : Nat => s.heap.size ≤ q) (C ++ ((o0, .inl (cJ, 1, .inr (.inl fo))) :: Rr)) → va_S (fun q : Nat => s.heap.size ≤ q) s.heap H locs → lv_has ls 7 [(0, .ref b), (1, .ref x0), (2, .ref m0), (3, .ref o0), (4, .int i)] → W p l e room_1 s m #[Value.ref b] below meth c H locs (k + 3) (n + 300) (lw_Z below #[Value.ref b] s) (F0 m 1825 ls [])) : W p l e room_1 s m #[Value.ref b] below meth c H locs k n (lw_Z below #[Value.ref b] s) (F0 m 1179 ls []) := by
  obtain ⟨hx, hb, hr, hml, hown, hts0, hX, hbl, hlocks, hgv⟩ := id C0
  have hts : ∀ w ∈ wA, w.before #[Value.ref b] s = true := fun w h => hts0 w (List.mem_filter.mp h).1
  have hown : s.vm.findClass RL = some m.cls := hown
  have hcf : CallFix p m c code 7 s #[Value.ref b] wA RL := ⟨hx, hb, hml, hown, hts⟩
  have hbA : ¬ (fun q : Nat => s.heap.size ≤ q) b := Nat.not_le.mpr hbl
  refine lv_aload_n hx hb dL_law_1179 rfl (lv_at hl 1 rfl) ?_
  refine lv_aload_n hx hb dL_law_1180 rfl (lv_at hl 0 rfl) ?_
  refine lv_iload hx hb dL_law_1181 (lv_at hl 4 rfl) ?_
  refine lv_iconst (v := 1) hx hb dL_law_1183 (by decide) ?_
  refine lv_iadd hx hb dL_law_1184 ?_
  refine lv_topi (fun v1184 e1184 => ?_)
  have i1184 : v1184.toInt = i.toInt + 1 := zadd e1184 rfl (by decide) (by omega) (by omega)
  refine va_sld hx hb hX hbl hbA hS (vp_in_iff.mpr ⟨by omega, by omega⟩) dL_law_1185 ?_
  refine lv_topi (fun v1185 e1185 => ?_)
  refine k_X10_apart (rest := []) hcf hK3 hV hC hO hP hD hS (fun _ h => h) hl.1 (Nat.le_of_ble_eq_true rfl) (by show k + 0 ≤ 601024; omega) (by show n + 0 ≤ 7293034; omega) dL_law_1186 (fun v1186 C H locs hv1 hC hP hD hS => ?_)
  refine lv_pop hx hb dL_law_1189 rfl ?_
  refine lv_aload_n hx hb dL_law_1190 rfl (lv_at hl 2 rfl) ?_
  refine lv_aload_n hx hb dL_law_1191 rfl (lv_at hl 0 rfl) ?_
  refine lv_iload hx hb dL_law_1192 (lv_at hl 4 rfl) ?_
  refine lv_iconst (v := 1) hx hb dL_law_1194 (by decide) ?_
  refine lv_iadd hx hb dL_law_1195 ?_
  refine lv_topi (fun v1195 e1195 => ?_)
  have i1195 : v1195.toInt = i.toInt + 1 := zadd e1195 rfl (by decide) (by omega) (by omega)
  refine va_sld hx hb hX hbl hbA hS (vp_in_iff.mpr ⟨by omega, by omega⟩) dL_law_1196 ?_
  refine lv_topi (fun v1196 e1196 => ?_)
  have hP := zRotP hP
  have hD := zRotD hD
  refine k_X11_apart (rest := []) hcf hK3 hV hR hO hP hD hS (fun _ h => h) hl.1 (Nat.le_of_ble_eq_true rfl) (by show k + 0 ≤ 601024; omega) (by show n + 0 ≤ 7293034; omega) dL_law_1197 (fun v1197 Rr H locs hv2 hR hP hD hS => ?_)
  have hP := zRotP' hP
  have hD := zRotD' hD
  have ev0 : v1196 = v1185 := by rw [e1196, e1185, e1195, e1184]
  rw [ev0] at hv2
  have er : v1186.toInt = v1197.toInt := hv1.trans hv2.symm
  refine lv_pop hx hb dL_law_1200 rfl ?_
  refine lv_goto (tgt := 1825) hx hb dL_law_1201 (by decide) ?_
  refine W.widen (k := k + 3) (n := n + 300) (by omega) (by omega) ?_
  exact J _ C Rr fo H locs ls hO hC hR hP hD hS (lv_sub hl [0, 1, 2, 3, 4] rfl)
set_option maxHeartbeats 4000000 in
set_option maxRecDepth 100000 in
theorem law_case_29 {p : Program} {l : Launch} {e : Env} {s : State} {m : MethodId} {below : List Frame} {meth : Method} {c : Code} {b L : Nat} {xs : Nat → Int32} {dC : Nat → ClassId} {dI : Nat → Nat → Nat} {cI cJ cQ : ClassId} {x0 m0 o0 : Nat} (hl0 : l.stackTraces = false) (C0 : lw_At p s m meth c b L xs) (hK3 : va_K (dC, dI) vwCl [(cI, .int), (cJ, .long), (cQ, .object "NinePortraits$Law")] s) (hV : zV (fun q : Nat => s.heap.size ≤ q) s) (hG : zG (fun q : Nat => s.heap.size ≤ q) s) (hCa : zCa s) (hL : L ≤ 3584) {sg : zSy} {C Rr : va_W} {fo : Nat → Int64} {i : Int32} {H : Heap} {locs : List Loc} {ls : Array Slot} {k n : Nat} (hO : zOkG sg) (hC : zCi cI cJ cQ x0 sg C) (hR : zRi cI m0 sg Rr) (hP : va_P (dC, dI) vwCl (C ++ ((o0, .inl (cJ, 1, .inr (.inl fo))) :: Rr)) H) (hD : va_D (fun q : Nat => s.heap.size ≤ q) (C ++ ((o0, .inl (cJ, 1, .inr (.inl fo))) :: Rr))) (hS : va_S (fun q : Nat => s.heap.size ≤ q) s.heap H locs) (hl : lv_has ls 7 [(0, .ref b), (1, .ref x0), (2, .ref m0), (3, .ref o0), (4, .int i)]) (hi0 : 0 ≤ i.toInt) (hiL : i.toInt + 7 ≤ (L : Int)) (hk : k + 3 ≤ 601024) (hn : n + 300 ≤ 7293034) (J : ∀ (sg : zSy) (C Rr : va_W) (fo : Nat → Int64) (H : Heap) (locs : List Loc) (ls : Array Slot), zOkG sg → zCi cI cJ cQ x0 sg C → zRi cI m0 sg Rr → va_P (dC, dI) vwCl (C ++ ((o0, .inl (cJ, 1, .inr (.inl fo))) :: Rr)) H → va_D (fun q : Nat => s.heap.size ≤ q) (C ++ ((o0, .inl (cJ, 1, .inr (.inl fo))) :: Rr)) → va_S (fun q : Nat => s.heap.size ≤ q) s.heap H locs → lv_has ls 7 [(0, .ref b), (1, .ref x0), (2, .ref m0), (3, .ref o0), (4, .int i)] → W p l e room_1 s m #[Value.ref b] below meth c H locs (k + 3) (n + 300) (lw_Z below #[Value.ref b] s) (F0 m 1825 ls [])) : W p l e room_1 s m #[Value.ref b] below meth c H locs k n (lw_Z below #[Value.ref b] s) (F0 m 1204 ls []) := by
  obtain ⟨hx, hb, hr, hml, hown, hts0, hX, hbl, hlocks, hgv⟩ := id C0
  have hts : ∀ w ∈ wA, w.before #[Value.ref b] s = true := fun w h => hts0 w (List.mem_filter.mp h).1
  have hown : s.vm.findClass RL = some m.cls := hown
  have hcf : CallFix p m c code 7 s #[Value.ref b] wA RL := ⟨hx, hb, hml, hown, hts⟩
  have hbA : ¬ (fun q : Nat => s.heap.size ≤ q) b := Nat.not_le.mpr hbl
  refine lv_aload_n hx hb dL_law_1204 rfl (lv_at hl 1 rfl) ?_
  refine lv_aload_n hx hb dL_law_1205 rfl (lv_at hl 0 rfl) ?_
  refine lv_iload hx hb dL_law_1206 (lv_at hl 4 rfl) ?_
  refine lv_iconst (v := 1) hx hb dL_law_1208 (by decide) ?_
  refine lv_iadd hx hb dL_law_1209 ?_
  refine lv_topi (fun v1209 e1209 => ?_)
  have i1209 : v1209.toInt = i.toInt + 1 := zadd e1209 rfl (by decide) (by omega) (by omega)
  refine va_sld hx hb hX hbl hbA hS (vp_in_iff.mpr ⟨by omega, by omega⟩) dL_law_1210 ?_
  refine lv_topi (fun v1210 e1210 => ?_)
  refine lv_aload_n hx hb dL_law_1211 rfl (lv_at hl 0 rfl) ?_
  refine lv_iload hx hb dL_law_1212 (lv_at hl 4 rfl) ?_
  refine lv_iconst (v := 2) hx hb dL_law_1214 (by decide) ?_
  refine lv_iadd hx hb dL_law_1215 ?_
  refine lv_topi (fun v1215 e1215 => ?_)
  have i1215 : v1215.toInt = i.toInt + 2 := zadd e1215 rfl (by decide) (by omega) (by omega)
  refine va_sld hx hb hX hbl hbA hS (vp_in_iff.mpr ⟨by omega, by omega⟩) dL_law_1216 ?_
  refine lv_topi (fun v1216 e1216 => ?_)
  refine k_X10_worth (rest := []) hcf hK3 hV hC hO hP hD hS (fun _ h => h) hl.1 (Nat.le_of_ble_eq_true rfl) (by show k + 0 ≤ 601024; omega) (by show n + 0 ≤ 7293034; omega) dL_law_1217 (fun v1217 C H locs hv1 hC hP hD hS => ?_)
  refine lv_pop hx hb dL_law_1220 rfl ?_
  refine lv_aload_n hx hb dL_law_1221 rfl (lv_at hl 2 rfl) ?_
  refine lv_aload_n hx hb dL_law_1222 rfl (lv_at hl 0 rfl) ?_
  refine lv_iload hx hb dL_law_1223 (lv_at hl 4 rfl) ?_
  refine lv_iconst (v := 1) hx hb dL_law_1225 (by decide) ?_
  refine lv_iadd hx hb dL_law_1226 ?_
  refine lv_topi (fun v1226 e1226 => ?_)
  have i1226 : v1226.toInt = i.toInt + 1 := zadd e1226 rfl (by decide) (by omega) (by omega)
  refine va_sld hx hb hX hbl hbA hS (vp_in_iff.mpr ⟨by omega, by omega⟩) dL_law_1227 ?_
  refine lv_topi (fun v1227 e1227 => ?_)
  refine lv_aload_n hx hb dL_law_1228 rfl (lv_at hl 0 rfl) ?_
  refine lv_iload hx hb dL_law_1229 (lv_at hl 4 rfl) ?_
  refine lv_iconst (v := 2) hx hb dL_law_1231 (by decide) ?_
  refine lv_iadd hx hb dL_law_1232 ?_
  refine lv_topi (fun v1232 e1232 => ?_)
  have i1232 : v1232.toInt = i.toInt + 2 := zadd e1232 rfl (by decide) (by omega) (by omega)
  refine va_sld hx hb hX hbl hbA hS (vp_in_iff.mpr ⟨by omega, by omega⟩) dL_law_1233 ?_
  refine lv_topi (fun v1233 e1233 => ?_)
  have hP := zRotP hP
  have hD := zRotD hD
  refine k_X11_worth (rest := []) hcf hK3 hV hR hO hP hD hS (fun _ h => h) hl.1 (Nat.le_of_ble_eq_true rfl) (by show k + 0 ≤ 601024; omega) (by show n + 0 ≤ 7293034; omega) dL_law_1234 (fun v1234 Rr H locs hv2 hR hP hD hS => ?_)
  have hP := zRotP' hP
  have hD := zRotD' hD
  have ev0 : v1227 = v1210 := by rw [e1227, e1210, e1226, e1209]
  rw [ev0] at hv2
  have ev1 : v1233 = v1216 := by rw [e1233, e1216, e1232, e1215]
  rw [ev1] at hv2
  have er : v1217.toInt = v1234.toInt := congrArg Int32.toInt (hv1.trans hv2.symm)
  refine lv_pop hx hb dL_law_1237 rfl ?_
  refine lv_goto (tgt := 1825) hx hb dL_law_1238 (by decide) ?_
  refine W.widen (k := k + 3) (n := n + 300) (by omega) (by omega) ?_
  exact J _ C Rr fo H locs ls hO hC hR hP hD hS (lv_sub hl [0, 1, 2, 3, 4] rfl)
set_option maxHeartbeats 4000000 in
set_option maxRecDepth 100000 in
theorem law_case_30 {p : Program} {l : Launch} {e : Env} {s : State} {m : MethodId} {below : List Frame} {meth : Method} {c : Code} {b L : Nat} {xs : Nat → Int32} {dC : Nat → ClassId} {dI : Nat → Nat → Nat} {cI cJ cQ : ClassId} {x0 m0 o0 : Nat} (hl0 : l.stackTraces = false) (C0 : lw_At p s m meth c b L xs) (hK3 : va_K (dC, dI) vwCl [(cI, .int), (cJ, .long), (cQ, .object "NinePortraits$Law")] s) (hV : zV (fun q : Nat => s.heap.size ≤ q) s) (hG : zG (fun q : Nat => s.heap.size ≤ q) s) (hCa : zCa s) (hL : L ≤ 3584) {sg : zSy} {C Rr : va_W} {fo : Nat → Int64} {i : Int32} {H : Heap} {locs : List Loc} {ls : Array Slot} {k n : Nat} (hO : zOkG sg) (hC : zCi cI cJ cQ x0 sg C) (hR : zRi cI m0 sg Rr) (hP : va_P (dC, dI) vwCl (C ++ ((o0, .inl (cJ, 1, .inr (.inl fo))) :: Rr)) H) (hD : va_D (fun q : Nat => s.heap.size ≤ q) (C ++ ((o0, .inl (cJ, 1, .inr (.inl fo))) :: Rr))) (hS : va_S (fun q : Nat => s.heap.size ≤ q) s.heap H locs) (hl : lv_has ls 7 [(0, .ref b), (1, .ref x0), (2, .ref m0), (3, .ref o0), (4, .int i)]) (hi0 : 0 ≤ i.toInt) (hiL : i.toInt + 7 ≤ (L : Int)) (hk : k + 3 ≤ 601024) (hn : n + 300 ≤ 7293034) (J : ∀ (sg : zSy) (C Rr : va_W) (fo : Nat → Int64) (H : Heap) (locs : List Loc) (ls : Array Slot), zOkG sg → zCi cI cJ cQ x0 sg C → zRi cI m0 sg Rr → va_P (dC, dI) vwCl (C ++ ((o0, .inl (cJ, 1, .inr (.inl fo))) :: Rr)) H → va_D (fun q : Nat => s.heap.size ≤ q) (C ++ ((o0, .inl (cJ, 1, .inr (.inl fo))) :: Rr)) → va_S (fun q : Nat => s.heap.size ≤ q) s.heap H locs → lv_has ls 7 [(0, .ref b), (1, .ref x0), (2, .ref m0), (3, .ref o0), (4, .int i)] → W p l e room_1 s m #[Value.ref b] below meth c H locs (k + 3) (n + 300) (lw_Z below #[Value.ref b] s) (F0 m 1825 ls [])) : W p l e room_1 s m #[Value.ref b] below meth c H locs k n (lw_Z below #[Value.ref b] s) (F0 m 1241 ls []) := by
  obtain ⟨hx, hb, hr, hml, hown, hts0, hX, hbl, hlocks, hgv⟩ := id C0
  have hts : ∀ w ∈ wA, w.before #[Value.ref b] s = true := fun w h => hts0 w (List.mem_filter.mp h).1
  have hown : s.vm.findClass RL = some m.cls := hown
  have hcf : CallFix p m c code 7 s #[Value.ref b] wA RL := ⟨hx, hb, hml, hown, hts⟩
  have hbA : ¬ (fun q : Nat => s.heap.size ≤ q) b := Nat.not_le.mpr hbl
  refine lv_aload_n hx hb dL_law_1241 rfl (lv_at hl 1 rfl) ?_
  refine lv_aload_n hx hb dL_law_1242 rfl (lv_at hl 0 rfl) ?_
  refine lv_iload hx hb dL_law_1243 (lv_at hl 4 rfl) ?_
  refine lv_iconst (v := 1) hx hb dL_law_1245 (by decide) ?_
  refine lv_iadd hx hb dL_law_1246 ?_
  refine lv_topi (fun v1246 e1246 => ?_)
  have i1246 : v1246.toInt = i.toInt + 1 := zadd e1246 rfl (by decide) (by omega) (by omega)
  refine va_sld hx hb hX hbl hbA hS (vp_in_iff.mpr ⟨by omega, by omega⟩) dL_law_1247 ?_
  refine lv_topi (fun v1247 e1247 => ?_)
  refine k_X10_chooses (rest := []) hcf hK3 hV hC hO hP hD hS (fun _ h => h) hl.1 (Nat.le_of_ble_eq_true rfl) (by show k + 0 ≤ 601024; omega) (by show n + 0 ≤ 7293034; omega) dL_law_1248 (fun v1248 C H locs hC hP hD hS => ?_)
  refine lv_pop hx hb dL_law_1251 rfl ?_
  refine lv_aload_n hx hb dL_law_1252 rfl (lv_at hl 2 rfl) ?_
  refine lv_aload_n hx hb dL_law_1253 rfl (lv_at hl 0 rfl) ?_
  refine lv_iload hx hb dL_law_1254 (lv_at hl 4 rfl) ?_
  refine lv_iconst (v := 1) hx hb dL_law_1256 (by decide) ?_
  refine lv_iadd hx hb dL_law_1257 ?_
  refine lv_topi (fun v1257 e1257 => ?_)
  have i1257 : v1257.toInt = i.toInt + 1 := zadd e1257 rfl (by decide) (by omega) (by omega)
  refine va_sld hx hb hX hbl hbA hS (vp_in_iff.mpr ⟨by omega, by omega⟩) dL_law_1258 ?_
  refine lv_topi (fun v1258 e1258 => ?_)
  have hP := zRotP hP
  have hD := zRotD hD
  refine k_X11_chooses (rest := []) hcf hK3 hV hR hO hP hD hS (fun _ h => h) hl.1 (Nat.le_of_ble_eq_true rfl) (by show k + 0 ≤ 601024; omega) (by show n + 0 ≤ 7293034; omega) dL_law_1259 (fun v1259 Rr H locs hR hP hD hS => ?_)
  have hP := zRotP' hP
  have hD := zRotD' hD
  refine lv_pop hx hb dL_law_1262 rfl ?_
  refine lv_goto (tgt := 1825) hx hb dL_law_1263 (by decide) ?_
  refine W.widen (k := k + 3) (n := n + 300) (by omega) (by omega) ?_
  exact J _ C Rr fo H locs ls hO hC hR hP hD hS (lv_sub hl [0, 1, 2, 3, 4] rfl)
set_option maxHeartbeats 4000000 in
set_option maxRecDepth 100000 in
theorem law_case_31 {p : Program} {l : Launch} {e : Env} {s : State} {m : MethodId} {below : List Frame} {meth : Method} {c : Code} {b L : Nat} {xs : Nat → Int32} {dC : Nat → ClassId} {dI : Nat → Nat → Nat} {cI cJ cQ : ClassId} {x0 m0 o0 : Nat} (hl0 : l.stackTraces = false) (C0 : lw_At p s m meth c b L xs) (hK3 : va_K (dC, dI) vwCl [(cI, .int), (cJ, .long), (cQ, .object "NinePortraits$Law")] s) (hV : zV (fun q : Nat => s.heap.size ≤ q) s) (hG : zG (fun q : Nat => s.heap.size ≤ q) s) (hCa : zCa s) (hL : L ≤ 3584) {sg : zSy} {C Rr : va_W} {fo : Nat → Int64} {i : Int32} {H : Heap} {locs : List Loc} {ls : Array Slot} {k n : Nat} (hO : zOkG sg) (hC : zCi cI cJ cQ x0 sg C) (hR : zRi cI m0 sg Rr) (hP : va_P (dC, dI) vwCl (C ++ ((o0, .inl (cJ, 1, .inr (.inl fo))) :: Rr)) H) (hD : va_D (fun q : Nat => s.heap.size ≤ q) (C ++ ((o0, .inl (cJ, 1, .inr (.inl fo))) :: Rr))) (hS : va_S (fun q : Nat => s.heap.size ≤ q) s.heap H locs) (hl : lv_has ls 7 [(0, .ref b), (1, .ref x0), (2, .ref m0), (3, .ref o0), (4, .int i)]) (hi0 : 0 ≤ i.toInt) (hiL : i.toInt + 7 ≤ (L : Int)) (hk : k + 3 ≤ 601024) (hn : n + 300 ≤ 7293034) (J : ∀ (sg : zSy) (C Rr : va_W) (fo : Nat → Int64) (H : Heap) (locs : List Loc) (ls : Array Slot), zOkG sg → zCi cI cJ cQ x0 sg C → zRi cI m0 sg Rr → va_P (dC, dI) vwCl (C ++ ((o0, .inl (cJ, 1, .inr (.inl fo))) :: Rr)) H → va_D (fun q : Nat => s.heap.size ≤ q) (C ++ ((o0, .inl (cJ, 1, .inr (.inl fo))) :: Rr)) → va_S (fun q : Nat => s.heap.size ≤ q) s.heap H locs → lv_has ls 7 [(0, .ref b), (1, .ref x0), (2, .ref m0), (3, .ref o0), (4, .int i)] → W p l e room_1 s m #[Value.ref b] below meth c H locs (k + 3) (n + 300) (lw_Z below #[Value.ref b] s) (F0 m 1825 ls [])) : W p l e room_1 s m #[Value.ref b] below meth c H locs k n (lw_Z below #[Value.ref b] s) (F0 m 1266 ls []) := by
  obtain ⟨hx, hb, hr, hml, hown, hts0, hX, hbl, hlocks, hgv⟩ := id C0
  have hts : ∀ w ∈ wA, w.before #[Value.ref b] s = true := fun w h => hts0 w (List.mem_filter.mp h).1
  have hown : s.vm.findClass RL = some m.cls := hown
  have hcf : CallFix p m c code 7 s #[Value.ref b] wA RL := ⟨hx, hb, hml, hown, hts⟩
  have hbA : ¬ (fun q : Nat => s.heap.size ≤ q) b := Nat.not_le.mpr hbl
  refine lv_aload_n hx hb dL_law_1266 rfl (lv_at hl 1 rfl) ?_
  refine lv_aload_n hx hb dL_law_1267 rfl (lv_at hl 0 rfl) ?_
  refine lv_iload hx hb dL_law_1268 (lv_at hl 4 rfl) ?_
  refine lv_iconst (v := 1) hx hb dL_law_1270 (by decide) ?_
  refine lv_iadd hx hb dL_law_1271 ?_
  refine lv_topi (fun v1271 e1271 => ?_)
  have i1271 : v1271.toInt = i.toInt + 1 := zadd e1271 rfl (by decide) (by omega) (by omega)
  refine va_sld hx hb hX hbl hbA hS (vp_in_iff.mpr ⟨by omega, by omega⟩) dL_law_1272 ?_
  refine lv_topi (fun v1272 e1272 => ?_)
  refine lv_aload_n hx hb dL_law_1273 rfl (lv_at hl 0 rfl) ?_
  refine lv_iload hx hb dL_law_1274 (lv_at hl 4 rfl) ?_
  refine lv_iconst (v := 2) hx hb dL_law_1276 (by decide) ?_
  refine lv_iadd hx hb dL_law_1277 ?_
  refine lv_topi (fun v1277 e1277 => ?_)
  have i1277 : v1277.toInt = i.toInt + 2 := zadd e1277 rfl (by decide) (by omega) (by omega)
  refine va_sld hx hb hX hbl hbA hS (vp_in_iff.mpr ⟨by omega, by omega⟩) dL_law_1278 ?_
  refine lv_topi (fun v1278 e1278 => ?_)
  refine lv_aload_n hx hb dL_law_1279 rfl (lv_at hl 0 rfl) ?_
  refine lv_iload hx hb dL_law_1280 (lv_at hl 4 rfl) ?_
  refine lv_iconst (v := 3) hx hb dL_law_1282 (by decide) ?_
  refine lv_iadd hx hb dL_law_1283 ?_
  refine lv_topi (fun v1283 e1283 => ?_)
  have i1283 : v1283.toInt = i.toInt + 3 := zadd e1283 rfl (by decide) (by omega) (by omega)
  refine va_sld hx hb hX hbl hbA hS (vp_in_iff.mpr ⟨by omega, by omega⟩) dL_law_1284 ?_
  refine lv_topi (fun v1284 e1284 => ?_)
  refine lv_aload_n hx hb dL_law_1285 rfl (lv_at hl 0 rfl) ?_
  refine lv_iload hx hb dL_law_1286 (lv_at hl 4 rfl) ?_
  refine lv_iconst (v := 4) hx hb dL_law_1288 (by decide) ?_
  refine lv_iadd hx hb dL_law_1289 ?_
  refine lv_topi (fun v1289 e1289 => ?_)
  have i1289 : v1289.toInt = i.toInt + 4 := zadd e1289 rfl (by decide) (by omega) (by omega)
  refine va_sld hx hb hX hbl hbA hS (vp_in_iff.mpr ⟨by omega, by omega⟩) dL_law_1290 ?_
  refine lv_topi (fun v1290 e1290 => ?_)
  refine lv_aload_n hx hb dL_law_1291 rfl (lv_at hl 0 rfl) ?_
  refine lv_iload hx hb dL_law_1292 (lv_at hl 4 rfl) ?_
  refine lv_iconst (v := 5) hx hb dL_law_1294 (by decide) ?_
  refine lv_iadd hx hb dL_law_1295 ?_
  refine lv_topi (fun v1295 e1295 => ?_)
  have i1295 : v1295.toInt = i.toInt + 5 := zadd e1295 rfl (by decide) (by omega) (by omega)
  refine va_sld hx hb hX hbl hbA hS (vp_in_iff.mpr ⟨by omega, by omega⟩) dL_law_1296 ?_
  refine lv_topi (fun v1296 e1296 => ?_)
  refine lv_aload_n hx hb dL_law_1297 rfl (lv_at hl 0 rfl) ?_
  refine lv_iload hx hb dL_law_1298 (lv_at hl 4 rfl) ?_
  refine lv_bipush (v := 6) hx hb dL_law_1300 (by decide) ?_
  refine lv_iadd hx hb dL_law_1302 ?_
  refine lv_topi (fun v1302 e1302 => ?_)
  have i1302 : v1302.toInt = i.toInt + 6 := zadd e1302 rfl (by decide) (by omega) (by omega)
  refine va_sld hx hb hX hbl hbA hS (vp_in_iff.mpr ⟨by omega, by omega⟩) dL_law_1303 ?_
  refine lv_topi (fun v1303 e1303 => ?_)
  refine k_X10_game (rest := []) hcf hK3 hV hC hO hP hD hS (fun _ h => h) hl.1 (Nat.le_of_ble_eq_true rfl) (by show k + 0 ≤ 601024; omega) (by show n + 0 ≤ 7293034; omega) dL_law_1304 (fun v1304 C H locs hv1 hC hP hD hS => ?_)
  refine lv_pop hx hb dL_law_1307 rfl ?_
  refine lv_aload_n hx hb dL_law_1308 rfl (lv_at hl 2 rfl) ?_
  refine lv_aload_n hx hb dL_law_1309 rfl (lv_at hl 0 rfl) ?_
  refine lv_iload hx hb dL_law_1310 (lv_at hl 4 rfl) ?_
  refine lv_iconst (v := 1) hx hb dL_law_1312 (by decide) ?_
  refine lv_iadd hx hb dL_law_1313 ?_
  refine lv_topi (fun v1313 e1313 => ?_)
  have i1313 : v1313.toInt = i.toInt + 1 := zadd e1313 rfl (by decide) (by omega) (by omega)
  refine va_sld hx hb hX hbl hbA hS (vp_in_iff.mpr ⟨by omega, by omega⟩) dL_law_1314 ?_
  refine lv_topi (fun v1314 e1314 => ?_)
  refine lv_aload_n hx hb dL_law_1315 rfl (lv_at hl 0 rfl) ?_
  refine lv_iload hx hb dL_law_1316 (lv_at hl 4 rfl) ?_
  refine lv_iconst (v := 2) hx hb dL_law_1318 (by decide) ?_
  refine lv_iadd hx hb dL_law_1319 ?_
  refine lv_topi (fun v1319 e1319 => ?_)
  have i1319 : v1319.toInt = i.toInt + 2 := zadd e1319 rfl (by decide) (by omega) (by omega)
  refine va_sld hx hb hX hbl hbA hS (vp_in_iff.mpr ⟨by omega, by omega⟩) dL_law_1320 ?_
  refine lv_topi (fun v1320 e1320 => ?_)
  refine lv_aload_n hx hb dL_law_1321 rfl (lv_at hl 0 rfl) ?_
  refine lv_iload hx hb dL_law_1322 (lv_at hl 4 rfl) ?_
  refine lv_iconst (v := 3) hx hb dL_law_1324 (by decide) ?_
  refine lv_iadd hx hb dL_law_1325 ?_
  refine lv_topi (fun v1325 e1325 => ?_)
  have i1325 : v1325.toInt = i.toInt + 3 := zadd e1325 rfl (by decide) (by omega) (by omega)
  refine va_sld hx hb hX hbl hbA hS (vp_in_iff.mpr ⟨by omega, by omega⟩) dL_law_1326 ?_
  refine lv_topi (fun v1326 e1326 => ?_)
  refine lv_aload_n hx hb dL_law_1327 rfl (lv_at hl 0 rfl) ?_
  refine lv_iload hx hb dL_law_1328 (lv_at hl 4 rfl) ?_
  refine lv_iconst (v := 4) hx hb dL_law_1330 (by decide) ?_
  refine lv_iadd hx hb dL_law_1331 ?_
  refine lv_topi (fun v1331 e1331 => ?_)
  have i1331 : v1331.toInt = i.toInt + 4 := zadd e1331 rfl (by decide) (by omega) (by omega)
  refine va_sld hx hb hX hbl hbA hS (vp_in_iff.mpr ⟨by omega, by omega⟩) dL_law_1332 ?_
  refine lv_topi (fun v1332 e1332 => ?_)
  refine lv_aload_n hx hb dL_law_1333 rfl (lv_at hl 0 rfl) ?_
  refine lv_iload hx hb dL_law_1334 (lv_at hl 4 rfl) ?_
  refine lv_iconst (v := 5) hx hb dL_law_1336 (by decide) ?_
  refine lv_iadd hx hb dL_law_1337 ?_
  refine lv_topi (fun v1337 e1337 => ?_)
  have i1337 : v1337.toInt = i.toInt + 5 := zadd e1337 rfl (by decide) (by omega) (by omega)
  refine va_sld hx hb hX hbl hbA hS (vp_in_iff.mpr ⟨by omega, by omega⟩) dL_law_1338 ?_
  refine lv_topi (fun v1338 e1338 => ?_)
  refine lv_aload_n hx hb dL_law_1339 rfl (lv_at hl 0 rfl) ?_
  refine lv_iload hx hb dL_law_1340 (lv_at hl 4 rfl) ?_
  refine lv_bipush (v := 6) hx hb dL_law_1342 (by decide) ?_
  refine lv_iadd hx hb dL_law_1344 ?_
  refine lv_topi (fun v1344 e1344 => ?_)
  have i1344 : v1344.toInt = i.toInt + 6 := zadd e1344 rfl (by decide) (by omega) (by omega)
  refine va_sld hx hb hX hbl hbA hS (vp_in_iff.mpr ⟨by omega, by omega⟩) dL_law_1345 ?_
  refine lv_topi (fun v1345 e1345 => ?_)
  have hP := zRotP hP
  have hD := zRotD hD
  refine k_X11_game (rest := []) hcf hK3 hV hR hO hP hD hS (fun _ h => h) hl.1 (Nat.le_of_ble_eq_true rfl) (by show k + 0 ≤ 601024; omega) (by show n + 0 ≤ 7293034; omega) dL_law_1346 (fun v1346 Rr H locs hv2 hR hP hD hS => ?_)
  have hP := zRotP' hP
  have hD := zRotD' hD
  have ev0 : v1314 = v1272 := by rw [e1314, e1272, e1313, e1271]
  rw [ev0] at hv2
  have ev1 : v1320 = v1278 := by rw [e1320, e1278, e1319, e1277]
  rw [ev1] at hv2
  have ev2 : v1326 = v1284 := by rw [e1326, e1284, e1325, e1283]
  rw [ev2] at hv2
  have ev3 : v1332 = v1290 := by rw [e1332, e1290, e1331, e1289]
  rw [ev3] at hv2
  have ev4 : v1338 = v1296 := by rw [e1338, e1296, e1337, e1295]
  rw [ev4] at hv2
  have ev5 : v1345 = v1303 := by rw [e1345, e1303, e1344, e1302]
  rw [ev5] at hv2
  have er : v1304.toInt = v1346.toInt := congrArg Int32.toInt (hv1.trans hv2.symm)
  refine lv_pop hx hb dL_law_1349 rfl ?_
  refine lv_goto (tgt := 1825) hx hb dL_law_1350 (by decide) ?_
  refine W.widen (k := k + 3) (n := n + 300) (by omega) (by omega) ?_
  exact J _ C Rr fo H locs ls hO hC hR hP hD hS (lv_sub hl [0, 1, 2, 3, 4] rfl)
set_option maxHeartbeats 4000000 in
set_option maxRecDepth 100000 in
theorem law_case_32 {p : Program} {l : Launch} {e : Env} {s : State} {m : MethodId} {below : List Frame} {meth : Method} {c : Code} {b L : Nat} {xs : Nat → Int32} {dC : Nat → ClassId} {dI : Nat → Nat → Nat} {cI cJ cQ : ClassId} {x0 m0 o0 : Nat} (hl0 : l.stackTraces = false) (C0 : lw_At p s m meth c b L xs) (hK3 : va_K (dC, dI) vwCl [(cI, .int), (cJ, .long), (cQ, .object "NinePortraits$Law")] s) (hV : zV (fun q : Nat => s.heap.size ≤ q) s) (hG : zG (fun q : Nat => s.heap.size ≤ q) s) (hCa : zCa s) (hL : L ≤ 3584) {sg : zSy} {C Rr : va_W} {fo : Nat → Int64} {i : Int32} {H : Heap} {locs : List Loc} {ls : Array Slot} {k n : Nat} (hO : zOkG sg) (hC : zCi cI cJ cQ x0 sg C) (hR : zRi cI m0 sg Rr) (hP : va_P (dC, dI) vwCl (C ++ ((o0, .inl (cJ, 1, .inr (.inl fo))) :: Rr)) H) (hD : va_D (fun q : Nat => s.heap.size ≤ q) (C ++ ((o0, .inl (cJ, 1, .inr (.inl fo))) :: Rr))) (hS : va_S (fun q : Nat => s.heap.size ≤ q) s.heap H locs) (hl : lv_has ls 7 [(0, .ref b), (1, .ref x0), (2, .ref m0), (3, .ref o0), (4, .int i)]) (hi0 : 0 ≤ i.toInt) (hiL : i.toInt + 7 ≤ (L : Int)) (hk : k + 3 ≤ 601024) (hn : n + 300 ≤ 7293034) (J : ∀ (sg : zSy) (C Rr : va_W) (fo : Nat → Int64) (H : Heap) (locs : List Loc) (ls : Array Slot), zOkG sg → zCi cI cJ cQ x0 sg C → zRi cI m0 sg Rr → va_P (dC, dI) vwCl (C ++ ((o0, .inl (cJ, 1, .inr (.inl fo))) :: Rr)) H → va_D (fun q : Nat => s.heap.size ≤ q) (C ++ ((o0, .inl (cJ, 1, .inr (.inl fo))) :: Rr)) → va_S (fun q : Nat => s.heap.size ≤ q) s.heap H locs → lv_has ls 7 [(0, .ref b), (1, .ref x0), (2, .ref m0), (3, .ref o0), (4, .int i)] → W p l e room_1 s m #[Value.ref b] below meth c H locs (k + 3) (n + 300) (lw_Z below #[Value.ref b] s) (F0 m 1825 ls [])) : W p l e room_1 s m #[Value.ref b] below meth c H locs k n (lw_Z below #[Value.ref b] s) (F0 m 1353 ls []) := by
  obtain ⟨hx, hb, hr, hml, hown, hts0, hX, hbl, hlocks, hgv⟩ := id C0
  have hts : ∀ w ∈ wA, w.before #[Value.ref b] s = true := fun w h => hts0 w (List.mem_filter.mp h).1
  have hown : s.vm.findClass RL = some m.cls := hown
  have hcf : CallFix p m c code 7 s #[Value.ref b] wA RL := ⟨hx, hb, hml, hown, hts⟩
  have hbA : ¬ (fun q : Nat => s.heap.size ≤ q) b := Nat.not_le.mpr hbl
  refine lv_aload_n hx hb dL_law_1353 rfl (lv_at hl 1 rfl) ?_
  refine lv_aload_n hx hb dL_law_1354 rfl (lv_at hl 0 rfl) ?_
  refine lv_iload hx hb dL_law_1355 (lv_at hl 4 rfl) ?_
  refine lv_iconst (v := 1) hx hb dL_law_1357 (by decide) ?_
  refine lv_iadd hx hb dL_law_1358 ?_
  refine lv_topi (fun v1358 e1358 => ?_)
  have i1358 : v1358.toInt = i.toInt + 1 := zadd e1358 rfl (by decide) (by omega) (by omega)
  refine va_sld hx hb hX hbl hbA hS (vp_in_iff.mpr ⟨by omega, by omega⟩) dL_law_1359 ?_
  refine lv_topi (fun v1359 e1359 => ?_)
  refine lv_aload_n hx hb dL_law_1360 rfl (lv_at hl 0 rfl) ?_
  refine lv_iload hx hb dL_law_1361 (lv_at hl 4 rfl) ?_
  refine lv_iconst (v := 2) hx hb dL_law_1363 (by decide) ?_
  refine lv_iadd hx hb dL_law_1364 ?_
  refine lv_topi (fun v1364 e1364 => ?_)
  have i1364 : v1364.toInt = i.toInt + 2 := zadd e1364 rfl (by decide) (by omega) (by omega)
  refine va_sld hx hb hX hbl hbA hS (vp_in_iff.mpr ⟨by omega, by omega⟩) dL_law_1365 ?_
  refine lv_topi (fun v1365 e1365 => ?_)
  refine lv_aload_n hx hb dL_law_1366 rfl (lv_at hl 0 rfl) ?_
  refine lv_iload hx hb dL_law_1367 (lv_at hl 4 rfl) ?_
  refine lv_iconst (v := 3) hx hb dL_law_1369 (by decide) ?_
  refine lv_iadd hx hb dL_law_1370 ?_
  refine lv_topi (fun v1370 e1370 => ?_)
  have i1370 : v1370.toInt = i.toInt + 3 := zadd e1370 rfl (by decide) (by omega) (by omega)
  refine va_sld hx hb hX hbl hbA hS (vp_in_iff.mpr ⟨by omega, by omega⟩) dL_law_1371 ?_
  refine lv_topi (fun v1371 e1371 => ?_)
  refine lv_aload_n hx hb dL_law_1372 rfl (lv_at hl 0 rfl) ?_
  refine lv_iload hx hb dL_law_1373 (lv_at hl 4 rfl) ?_
  refine lv_iconst (v := 4) hx hb dL_law_1375 (by decide) ?_
  refine lv_iadd hx hb dL_law_1376 ?_
  refine lv_topi (fun v1376 e1376 => ?_)
  have i1376 : v1376.toInt = i.toInt + 4 := zadd e1376 rfl (by decide) (by omega) (by omega)
  refine va_sld hx hb hX hbl hbA hS (vp_in_iff.mpr ⟨by omega, by omega⟩) dL_law_1377 ?_
  refine lv_topi (fun v1377 e1377 => ?_)
  refine k_X10_rests (rest := []) hcf hK3 hV hC hO hP hD hS (fun _ h => h) hl.1 (Nat.le_of_ble_eq_true rfl) (by show k + 0 ≤ 601024; omega) (by show n + 0 ≤ 7293034; omega) dL_law_1378 (fun v1378 C H locs hv1 hC hP hD hS => ?_)
  refine lv_pop hx hb dL_law_1381 rfl ?_
  refine lv_aload_n hx hb dL_law_1382 rfl (lv_at hl 2 rfl) ?_
  refine lv_aload_n hx hb dL_law_1383 rfl (lv_at hl 0 rfl) ?_
  refine lv_iload hx hb dL_law_1384 (lv_at hl 4 rfl) ?_
  refine lv_iconst (v := 1) hx hb dL_law_1386 (by decide) ?_
  refine lv_iadd hx hb dL_law_1387 ?_
  refine lv_topi (fun v1387 e1387 => ?_)
  have i1387 : v1387.toInt = i.toInt + 1 := zadd e1387 rfl (by decide) (by omega) (by omega)
  refine va_sld hx hb hX hbl hbA hS (vp_in_iff.mpr ⟨by omega, by omega⟩) dL_law_1388 ?_
  refine lv_topi (fun v1388 e1388 => ?_)
  refine lv_aload_n hx hb dL_law_1389 rfl (lv_at hl 0 rfl) ?_
  refine lv_iload hx hb dL_law_1390 (lv_at hl 4 rfl) ?_
  refine lv_iconst (v := 2) hx hb dL_law_1392 (by decide) ?_
  refine lv_iadd hx hb dL_law_1393 ?_
  refine lv_topi (fun v1393 e1393 => ?_)
  have i1393 : v1393.toInt = i.toInt + 2 := zadd e1393 rfl (by decide) (by omega) (by omega)
  refine va_sld hx hb hX hbl hbA hS (vp_in_iff.mpr ⟨by omega, by omega⟩) dL_law_1394 ?_
  refine lv_topi (fun v1394 e1394 => ?_)
  refine lv_aload_n hx hb dL_law_1395 rfl (lv_at hl 0 rfl) ?_
  refine lv_iload hx hb dL_law_1396 (lv_at hl 4 rfl) ?_
  refine lv_iconst (v := 3) hx hb dL_law_1398 (by decide) ?_
  refine lv_iadd hx hb dL_law_1399 ?_
  refine lv_topi (fun v1399 e1399 => ?_)
  have i1399 : v1399.toInt = i.toInt + 3 := zadd e1399 rfl (by decide) (by omega) (by omega)
  refine va_sld hx hb hX hbl hbA hS (vp_in_iff.mpr ⟨by omega, by omega⟩) dL_law_1400 ?_
  refine lv_topi (fun v1400 e1400 => ?_)
  refine lv_aload_n hx hb dL_law_1401 rfl (lv_at hl 0 rfl) ?_
  refine lv_iload hx hb dL_law_1402 (lv_at hl 4 rfl) ?_
  refine lv_iconst (v := 4) hx hb dL_law_1404 (by decide) ?_
  refine lv_iadd hx hb dL_law_1405 ?_
  refine lv_topi (fun v1405 e1405 => ?_)
  have i1405 : v1405.toInt = i.toInt + 4 := zadd e1405 rfl (by decide) (by omega) (by omega)
  refine va_sld hx hb hX hbl hbA hS (vp_in_iff.mpr ⟨by omega, by omega⟩) dL_law_1406 ?_
  refine lv_topi (fun v1406 e1406 => ?_)
  have hP := zRotP hP
  have hD := zRotD hD
  refine k_X11_rests (rest := []) hcf hK3 hV hR hO hP hD hS (fun _ h => h) hl.1 (Nat.le_of_ble_eq_true rfl) (by show k + 0 ≤ 601024; omega) (by show n + 0 ≤ 7293034; omega) dL_law_1407 (fun v1407 Rr H locs hv2 hR hP hD hS => ?_)
  have hP := zRotP' hP
  have hD := zRotD' hD
  have ev0 : v1388 = v1359 := by rw [e1388, e1359, e1387, e1358]
  rw [ev0] at hv2
  have ev1 : v1394 = v1365 := by rw [e1394, e1365, e1393, e1364]
  rw [ev1] at hv2
  have ev2 : v1400 = v1371 := by rw [e1400, e1371, e1399, e1370]
  rw [ev2] at hv2
  have ev3 : v1406 = v1377 := by rw [e1406, e1377, e1405, e1376]
  rw [ev3] at hv2
  have er : v1378.toInt = v1407.toInt := hv1.trans hv2.symm
  refine lv_pop hx hb dL_law_1410 rfl ?_
  refine lv_goto (tgt := 1825) hx hb dL_law_1411 (by decide) ?_
  refine W.widen (k := k + 3) (n := n + 300) (by omega) (by omega) ?_
  exact J _ C Rr fo H locs ls hO hC hR hP hD hS (lv_sub hl [0, 1, 2, 3, 4] rfl)
set_option maxHeartbeats 4000000 in
set_option maxRecDepth 100000 in
theorem law_case_33 {p : Program} {l : Launch} {e : Env} {s : State} {m : MethodId} {below : List Frame} {meth : Method} {c : Code} {b L : Nat} {xs : Nat → Int32} {dC : Nat → ClassId} {dI : Nat → Nat → Nat} {cI cJ cQ : ClassId} {x0 m0 o0 : Nat} (hl0 : l.stackTraces = false) (C0 : lw_At p s m meth c b L xs) (hK3 : va_K (dC, dI) vwCl [(cI, .int), (cJ, .long), (cQ, .object "NinePortraits$Law")] s) (hV : zV (fun q : Nat => s.heap.size ≤ q) s) (hG : zG (fun q : Nat => s.heap.size ≤ q) s) (hCa : zCa s) (hL : L ≤ 3584) {sg : zSy} {C Rr : va_W} {fo : Nat → Int64} {i : Int32} {H : Heap} {locs : List Loc} {ls : Array Slot} {k n : Nat} (hO : zOkG sg) (hC : zCi cI cJ cQ x0 sg C) (hR : zRi cI m0 sg Rr) (hP : va_P (dC, dI) vwCl (C ++ ((o0, .inl (cJ, 1, .inr (.inl fo))) :: Rr)) H) (hD : va_D (fun q : Nat => s.heap.size ≤ q) (C ++ ((o0, .inl (cJ, 1, .inr (.inl fo))) :: Rr))) (hS : va_S (fun q : Nat => s.heap.size ≤ q) s.heap H locs) (hl : lv_has ls 7 [(0, .ref b), (1, .ref x0), (2, .ref m0), (3, .ref o0), (4, .int i)]) (hi0 : 0 ≤ i.toInt) (hiL : i.toInt + 7 ≤ (L : Int)) (hk : k + 3 ≤ 601024) (hn : n + 300 ≤ 7293034) (J : ∀ (sg : zSy) (C Rr : va_W) (fo : Nat → Int64) (H : Heap) (locs : List Loc) (ls : Array Slot), zOkG sg → zCi cI cJ cQ x0 sg C → zRi cI m0 sg Rr → va_P (dC, dI) vwCl (C ++ ((o0, .inl (cJ, 1, .inr (.inl fo))) :: Rr)) H → va_D (fun q : Nat => s.heap.size ≤ q) (C ++ ((o0, .inl (cJ, 1, .inr (.inl fo))) :: Rr)) → va_S (fun q : Nat => s.heap.size ≤ q) s.heap H locs → lv_has ls 7 [(0, .ref b), (1, .ref x0), (2, .ref m0), (3, .ref o0), (4, .int i)] → W p l e room_1 s m #[Value.ref b] below meth c H locs (k + 3) (n + 300) (lw_Z below #[Value.ref b] s) (F0 m 1825 ls [])) : W p l e room_1 s m #[Value.ref b] below meth c H locs k n (lw_Z below #[Value.ref b] s) (F0 m 1414 ls []) := by
  obtain ⟨hx, hb, hr, hml, hown, hts0, hX, hbl, hlocks, hgv⟩ := id C0
  have hts : ∀ w ∈ wA, w.before #[Value.ref b] s = true := fun w h => hts0 w (List.mem_filter.mp h).1
  have hown : s.vm.findClass RL = some m.cls := hown
  have hcf : CallFix p m c code 7 s #[Value.ref b] wA RL := ⟨hx, hb, hml, hown, hts⟩
  have hbA : ¬ (fun q : Nat => s.heap.size ≤ q) b := Nat.not_le.mpr hbl
  refine lv_aload_n hx hb dL_law_1414 rfl (lv_at hl 1 rfl) ?_
  refine lv_aload_n hx hb dL_law_1415 rfl (lv_at hl 0 rfl) ?_
  refine lv_iload hx hb dL_law_1416 (lv_at hl 4 rfl) ?_
  refine lv_iconst (v := 1) hx hb dL_law_1418 (by decide) ?_
  refine lv_iadd hx hb dL_law_1419 ?_
  refine lv_topi (fun v1419 e1419 => ?_)
  have i1419 : v1419.toInt = i.toInt + 1 := zadd e1419 rfl (by decide) (by omega) (by omega)
  refine va_sld hx hb hX hbl hbA hS (vp_in_iff.mpr ⟨by omega, by omega⟩) dL_law_1420 ?_
  refine lv_topi (fun v1420 e1420 => ?_)
  refine lv_aload_n hx hb dL_law_1421 rfl (lv_at hl 0 rfl) ?_
  refine lv_iload hx hb dL_law_1422 (lv_at hl 4 rfl) ?_
  refine lv_iconst (v := 2) hx hb dL_law_1424 (by decide) ?_
  refine lv_iadd hx hb dL_law_1425 ?_
  refine lv_topi (fun v1425 e1425 => ?_)
  have i1425 : v1425.toInt = i.toInt + 2 := zadd e1425 rfl (by decide) (by omega) (by omega)
  refine va_sld hx hb hX hbl hbA hS (vp_in_iff.mpr ⟨by omega, by omega⟩) dL_law_1426 ?_
  refine lv_topi (fun v1426 e1426 => ?_)
  refine k_X10_truth (rest := []) hcf hK3 hV hC hO hP hD hS (fun _ h => h) hl.1 (Nat.le_of_ble_eq_true rfl) (by show k + 0 ≤ 601024; omega) (by show n + 0 ≤ 7293034; omega) dL_law_1427 (fun v1427 C H locs hv1 hC hP hD hS => ?_)
  refine lv_pop hx hb dL_law_1430 rfl ?_
  refine lv_aload_n hx hb dL_law_1431 rfl (lv_at hl 2 rfl) ?_
  refine lv_aload_n hx hb dL_law_1432 rfl (lv_at hl 0 rfl) ?_
  refine lv_iload hx hb dL_law_1433 (lv_at hl 4 rfl) ?_
  refine lv_iconst (v := 1) hx hb dL_law_1435 (by decide) ?_
  refine lv_iadd hx hb dL_law_1436 ?_
  refine lv_topi (fun v1436 e1436 => ?_)
  have i1436 : v1436.toInt = i.toInt + 1 := zadd e1436 rfl (by decide) (by omega) (by omega)
  refine va_sld hx hb hX hbl hbA hS (vp_in_iff.mpr ⟨by omega, by omega⟩) dL_law_1437 ?_
  refine lv_topi (fun v1437 e1437 => ?_)
  refine lv_aload_n hx hb dL_law_1438 rfl (lv_at hl 0 rfl) ?_
  refine lv_iload hx hb dL_law_1439 (lv_at hl 4 rfl) ?_
  refine lv_iconst (v := 2) hx hb dL_law_1441 (by decide) ?_
  refine lv_iadd hx hb dL_law_1442 ?_
  refine lv_topi (fun v1442 e1442 => ?_)
  have i1442 : v1442.toInt = i.toInt + 2 := zadd e1442 rfl (by decide) (by omega) (by omega)
  refine va_sld hx hb hX hbl hbA hS (vp_in_iff.mpr ⟨by omega, by omega⟩) dL_law_1443 ?_
  refine lv_topi (fun v1443 e1443 => ?_)
  have hP := zRotP hP
  have hD := zRotD hD
  refine k_X11_truth (rest := []) hcf hK3 hV hR hO hP hD hS (fun _ h => h) hl.1 (Nat.le_of_ble_eq_true rfl) (by show k + 0 ≤ 601024; omega) (by show n + 0 ≤ 7293034; omega) dL_law_1444 (fun v1444 Rr H locs hv2 hR hP hD hS => ?_)
  have hP := zRotP' hP
  have hD := zRotD' hD
  have ev0 : v1437 = v1420 := by rw [e1437, e1420, e1436, e1419]
  rw [ev0] at hv2
  have ev1 : v1443 = v1426 := by rw [e1443, e1426, e1442, e1425]
  rw [ev1] at hv2
  have er : v1427.toInt = v1444.toInt := congrArg Int32.toInt (hv1.trans hv2.symm)
  refine lv_pop hx hb dL_law_1447 rfl ?_
  refine lv_goto (tgt := 1825) hx hb dL_law_1448 (by decide) ?_
  refine W.widen (k := k + 3) (n := n + 300) (by omega) (by omega) ?_
  exact J _ C Rr fo H locs ls hO hC hR hP hD hS (lv_sub hl [0, 1, 2, 3, 4] rfl)
set_option maxHeartbeats 4000000 in
set_option maxRecDepth 100000 in
theorem law_case_34 {p : Program} {l : Launch} {e : Env} {s : State} {m : MethodId} {below : List Frame} {meth : Method} {c : Code} {b L : Nat} {xs : Nat → Int32} {dC : Nat → ClassId} {dI : Nat → Nat → Nat} {cI cJ cQ : ClassId} {x0 m0 o0 : Nat} (hl0 : l.stackTraces = false) (C0 : lw_At p s m meth c b L xs) (hK3 : va_K (dC, dI) vwCl [(cI, .int), (cJ, .long), (cQ, .object "NinePortraits$Law")] s) (hV : zV (fun q : Nat => s.heap.size ≤ q) s) (hG : zG (fun q : Nat => s.heap.size ≤ q) s) (hCa : zCa s) (hL : L ≤ 3584) {sg : zSy} {C Rr : va_W} {fo : Nat → Int64} {i : Int32} {H : Heap} {locs : List Loc} {ls : Array Slot} {k n : Nat} (hO : zOkG sg) (hC : zCi cI cJ cQ x0 sg C) (hR : zRi cI m0 sg Rr) (hP : va_P (dC, dI) vwCl (C ++ ((o0, .inl (cJ, 1, .inr (.inl fo))) :: Rr)) H) (hD : va_D (fun q : Nat => s.heap.size ≤ q) (C ++ ((o0, .inl (cJ, 1, .inr (.inl fo))) :: Rr))) (hS : va_S (fun q : Nat => s.heap.size ≤ q) s.heap H locs) (hl : lv_has ls 7 [(0, .ref b), (1, .ref x0), (2, .ref m0), (3, .ref o0), (4, .int i)]) (hi0 : 0 ≤ i.toInt) (hiL : i.toInt + 7 ≤ (L : Int)) (hk : k + 3 ≤ 601024) (hn : n + 300 ≤ 7293034) (J : ∀ (sg : zSy) (C Rr : va_W) (fo : Nat → Int64) (H : Heap) (locs : List Loc) (ls : Array Slot), zOkG sg → zCi cI cJ cQ x0 sg C → zRi cI m0 sg Rr → va_P (dC, dI) vwCl (C ++ ((o0, .inl (cJ, 1, .inr (.inl fo))) :: Rr)) H → va_D (fun q : Nat => s.heap.size ≤ q) (C ++ ((o0, .inl (cJ, 1, .inr (.inl fo))) :: Rr)) → va_S (fun q : Nat => s.heap.size ≤ q) s.heap H locs → lv_has ls 7 [(0, .ref b), (1, .ref x0), (2, .ref m0), (3, .ref o0), (4, .int i)] → W p l e room_1 s m #[Value.ref b] below meth c H locs (k + 3) (n + 300) (lw_Z below #[Value.ref b] s) (F0 m 1825 ls [])) : W p l e room_1 s m #[Value.ref b] below meth c H locs k n (lw_Z below #[Value.ref b] s) (F0 m 1451 ls []) := by
  obtain ⟨hx, hb, hr, hml, hown, hts0, hX, hbl, hlocks, hgv⟩ := id C0
  have hts : ∀ w ∈ wA, w.before #[Value.ref b] s = true := fun w h => hts0 w (List.mem_filter.mp h).1
  have hown : s.vm.findClass RL = some m.cls := hown
  have hcf : CallFix p m c code 7 s #[Value.ref b] wA RL := ⟨hx, hb, hml, hown, hts⟩
  have hbA : ¬ (fun q : Nat => s.heap.size ≤ q) b := Nat.not_le.mpr hbl
  refine lv_aload_n hx hb dL_law_1451 rfl (lv_at hl 1 rfl) ?_
  refine lv_aload_n hx hb dL_law_1452 rfl (lv_at hl 0 rfl) ?_
  refine lv_iload hx hb dL_law_1453 (lv_at hl 4 rfl) ?_
  refine lv_iconst (v := 1) hx hb dL_law_1455 (by decide) ?_
  refine lv_iadd hx hb dL_law_1456 ?_
  refine lv_topi (fun v1456 e1456 => ?_)
  have i1456 : v1456.toInt = i.toInt + 1 := zadd e1456 rfl (by decide) (by omega) (by omega)
  refine va_sld hx hb hX hbl hbA hS (vp_in_iff.mpr ⟨by omega, by omega⟩) dL_law_1457 ?_
  refine lv_topi (fun v1457 e1457 => ?_)
  refine lv_aload_n hx hb dL_law_1458 rfl (lv_at hl 0 rfl) ?_
  refine lv_iload hx hb dL_law_1459 (lv_at hl 4 rfl) ?_
  refine lv_iconst (v := 2) hx hb dL_law_1461 (by decide) ?_
  refine lv_iadd hx hb dL_law_1462 ?_
  refine lv_topi (fun v1462 e1462 => ?_)
  have i1462 : v1462.toInt = i.toInt + 2 := zadd e1462 rfl (by decide) (by omega) (by omega)
  refine va_sld hx hb hX hbl hbA hS (vp_in_iff.mpr ⟨by omega, by omega⟩) dL_law_1463 ?_
  refine lv_topi (fun v1463 e1463 => ?_)
  refine k_X10_cheapest (rest := []) hcf hK3 hV hC hO hP hD hS (fun _ h => h) hl.1 (Nat.le_of_ble_eq_true rfl) (by show k + 0 ≤ 601024; omega) (by show n + 0 ≤ 7293034; omega) dL_law_1464 (fun v1464 C H locs hv1 hC hP hD hS => ?_)
  refine lv_pop hx hb dL_law_1467 rfl ?_
  refine lv_aload_n hx hb dL_law_1468 rfl (lv_at hl 2 rfl) ?_
  refine lv_aload_n hx hb dL_law_1469 rfl (lv_at hl 0 rfl) ?_
  refine lv_iload hx hb dL_law_1470 (lv_at hl 4 rfl) ?_
  refine lv_iconst (v := 1) hx hb dL_law_1472 (by decide) ?_
  refine lv_iadd hx hb dL_law_1473 ?_
  refine lv_topi (fun v1473 e1473 => ?_)
  have i1473 : v1473.toInt = i.toInt + 1 := zadd e1473 rfl (by decide) (by omega) (by omega)
  refine va_sld hx hb hX hbl hbA hS (vp_in_iff.mpr ⟨by omega, by omega⟩) dL_law_1474 ?_
  refine lv_topi (fun v1474 e1474 => ?_)
  refine lv_aload_n hx hb dL_law_1475 rfl (lv_at hl 0 rfl) ?_
  refine lv_iload hx hb dL_law_1476 (lv_at hl 4 rfl) ?_
  refine lv_iconst (v := 2) hx hb dL_law_1478 (by decide) ?_
  refine lv_iadd hx hb dL_law_1479 ?_
  refine lv_topi (fun v1479 e1479 => ?_)
  have i1479 : v1479.toInt = i.toInt + 2 := zadd e1479 rfl (by decide) (by omega) (by omega)
  refine va_sld hx hb hX hbl hbA hS (vp_in_iff.mpr ⟨by omega, by omega⟩) dL_law_1480 ?_
  refine lv_topi (fun v1480 e1480 => ?_)
  have hP := zRotP hP
  have hD := zRotD hD
  refine k_X11_cheapest (rest := []) hcf hK3 hV hR hO hP hD hS (fun _ h => h) hl.1 (Nat.le_of_ble_eq_true rfl) (by show k + 0 ≤ 601024; omega) (by show n + 0 ≤ 7293034; omega) dL_law_1481 (fun v1481 Rr H locs hv2 hR hP hD hS => ?_)
  have hP := zRotP' hP
  have hD := zRotD' hD
  have ev0 : v1474 = v1457 := by rw [e1474, e1457, e1473, e1456]
  rw [ev0] at hv2
  have ev1 : v1480 = v1463 := by rw [e1480, e1463, e1479, e1462]
  rw [ev1] at hv2
  have er : v1464.toInt = v1481.toInt := hv1.trans hv2.symm
  refine lv_pop hx hb dL_law_1484 rfl ?_
  refine lv_goto (tgt := 1825) hx hb dL_law_1485 (by decide) ?_
  refine W.widen (k := k + 3) (n := n + 300) (by omega) (by omega) ?_
  exact J _ C Rr fo H locs ls hO hC hR hP hD hS (lv_sub hl [0, 1, 2, 3, 4] rfl)
set_option maxHeartbeats 4000000 in
set_option maxRecDepth 100000 in
theorem law_case_35 {p : Program} {l : Launch} {e : Env} {s : State} {m : MethodId} {below : List Frame} {meth : Method} {c : Code} {b L : Nat} {xs : Nat → Int32} {dC : Nat → ClassId} {dI : Nat → Nat → Nat} {cI cJ cQ : ClassId} {x0 m0 o0 : Nat} (hl0 : l.stackTraces = false) (C0 : lw_At p s m meth c b L xs) (hK3 : va_K (dC, dI) vwCl [(cI, .int), (cJ, .long), (cQ, .object "NinePortraits$Law")] s) (hV : zV (fun q : Nat => s.heap.size ≤ q) s) (hG : zG (fun q : Nat => s.heap.size ≤ q) s) (hCa : zCa s) (hL : L ≤ 3584) {sg : zSy} {C Rr : va_W} {fo : Nat → Int64} {i : Int32} {H : Heap} {locs : List Loc} {ls : Array Slot} {k n : Nat} (hO : zOkG sg) (hC : zCi cI cJ cQ x0 sg C) (hR : zRi cI m0 sg Rr) (hP : va_P (dC, dI) vwCl (C ++ ((o0, .inl (cJ, 1, .inr (.inl fo))) :: Rr)) H) (hD : va_D (fun q : Nat => s.heap.size ≤ q) (C ++ ((o0, .inl (cJ, 1, .inr (.inl fo))) :: Rr))) (hS : va_S (fun q : Nat => s.heap.size ≤ q) s.heap H locs) (hl : lv_has ls 7 [(0, .ref b), (1, .ref x0), (2, .ref m0), (3, .ref o0), (4, .int i)]) (hi0 : 0 ≤ i.toInt) (hiL : i.toInt + 7 ≤ (L : Int)) (hk : k + 3 ≤ 601024) (hn : n + 300 ≤ 7293034) (J : ∀ (sg : zSy) (C Rr : va_W) (fo : Nat → Int64) (H : Heap) (locs : List Loc) (ls : Array Slot), zOkG sg → zCi cI cJ cQ x0 sg C → zRi cI m0 sg Rr → va_P (dC, dI) vwCl (C ++ ((o0, .inl (cJ, 1, .inr (.inl fo))) :: Rr)) H → va_D (fun q : Nat => s.heap.size ≤ q) (C ++ ((o0, .inl (cJ, 1, .inr (.inl fo))) :: Rr)) → va_S (fun q : Nat => s.heap.size ≤ q) s.heap H locs → lv_has ls 7 [(0, .ref b), (1, .ref x0), (2, .ref m0), (3, .ref o0), (4, .int i)] → W p l e room_1 s m #[Value.ref b] below meth c H locs (k + 3) (n + 300) (lw_Z below #[Value.ref b] s) (F0 m 1825 ls [])) : W p l e room_1 s m #[Value.ref b] below meth c H locs k n (lw_Z below #[Value.ref b] s) (F0 m 1488 ls []) := by
  obtain ⟨hx, hb, hr, hml, hown, hts0, hX, hbl, hlocks, hgv⟩ := id C0
  have hts : ∀ w ∈ wA, w.before #[Value.ref b] s = true := fun w h => hts0 w (List.mem_filter.mp h).1
  have hown : s.vm.findClass RL = some m.cls := hown
  have hcf : CallFix p m c code 7 s #[Value.ref b] wA RL := ⟨hx, hb, hml, hown, hts⟩
  have hbA : ¬ (fun q : Nat => s.heap.size ≤ q) b := Nat.not_le.mpr hbl
  refine lv_aload_n hx hb dL_law_1488 rfl (lv_at hl 1 rfl) ?_
  refine lv_aload_n hx hb dL_law_1489 rfl (lv_at hl 0 rfl) ?_
  refine lv_iload hx hb dL_law_1490 (lv_at hl 4 rfl) ?_
  refine lv_iconst (v := 1) hx hb dL_law_1492 (by decide) ?_
  refine lv_iadd hx hb dL_law_1493 ?_
  refine lv_topi (fun v1493 e1493 => ?_)
  have i1493 : v1493.toInt = i.toInt + 1 := zadd e1493 rfl (by decide) (by omega) (by omega)
  refine va_sld hx hb hX hbl hbA hS (vp_in_iff.mpr ⟨by omega, by omega⟩) dL_law_1494 ?_
  refine lv_topi (fun v1494 e1494 => ?_)
  refine k_X10_looks (rest := []) hcf hK3 hV hC hO hP hD hS (fun _ h => h) hl.1 (Nat.le_of_ble_eq_true rfl) (by show k + 0 ≤ 601024; omega) (by show n + 0 ≤ 7293034; omega) dL_law_1495 (fun v1495 C H locs hv1 hC hP hD hS => ?_)
  refine lv_pop hx hb dL_law_1498 rfl ?_
  refine lv_aload_n hx hb dL_law_1499 rfl (lv_at hl 2 rfl) ?_
  refine lv_aload_n hx hb dL_law_1500 rfl (lv_at hl 0 rfl) ?_
  refine lv_iload hx hb dL_law_1501 (lv_at hl 4 rfl) ?_
  refine lv_iconst (v := 1) hx hb dL_law_1503 (by decide) ?_
  refine lv_iadd hx hb dL_law_1504 ?_
  refine lv_topi (fun v1504 e1504 => ?_)
  have i1504 : v1504.toInt = i.toInt + 1 := zadd e1504 rfl (by decide) (by omega) (by omega)
  refine va_sld hx hb hX hbl hbA hS (vp_in_iff.mpr ⟨by omega, by omega⟩) dL_law_1505 ?_
  refine lv_topi (fun v1505 e1505 => ?_)
  have hP := zRotP hP
  have hD := zRotD hD
  refine k_X11_looks (rest := []) hcf hK3 hV hR hO hP hD hS (fun _ h => h) hl.1 (Nat.le_of_ble_eq_true rfl) (by show k + 0 ≤ 601024; omega) (by show n + 0 ≤ 7293034; omega) dL_law_1506 (fun v1506 Rr H locs hv2 hR hP hD hS => ?_)
  have hP := zRotP' hP
  have hD := zRotD' hD
  have ev0 : v1505 = v1494 := by rw [e1505, e1494, e1504, e1493]
  rw [ev0] at hv2
  have er : v1495.toInt = v1506.toInt := congrArg Int32.toInt (hv1.trans hv2.symm)
  refine lv_pop hx hb dL_law_1509 rfl ?_
  refine lv_goto (tgt := 1825) hx hb dL_law_1510 (by decide) ?_
  refine W.widen (k := k + 3) (n := n + 300) (by omega) (by omega) ?_
  exact J _ C Rr fo H locs ls hO hC hR hP hD hS (lv_sub hl [0, 1, 2, 3, 4] rfl)
set_option maxHeartbeats 4000000 in
set_option maxRecDepth 100000 in
theorem law_case_36 {p : Program} {l : Launch} {e : Env} {s : State} {m : MethodId} {below : List Frame} {meth : Method} {c : Code} {b L : Nat} {xs : Nat → Int32} {dC : Nat → ClassId} {dI : Nat → Nat → Nat} {cI cJ cQ : ClassId} {x0 m0 o0 : Nat} (hl0 : l.stackTraces = false) (C0 : lw_At p s m meth c b L xs) (hK3 : va_K (dC, dI) vwCl [(cI, .int), (cJ, .long), (cQ, .object "NinePortraits$Law")] s) (hV : zV (fun q : Nat => s.heap.size ≤ q) s) (hG : zG (fun q : Nat => s.heap.size ≤ q) s) (hCa : zCa s) (hL : L ≤ 3584) {sg : zSy} {C Rr : va_W} {fo : Nat → Int64} {i : Int32} {H : Heap} {locs : List Loc} {ls : Array Slot} {k n : Nat} (hO : zOkG sg) (hC : zCi cI cJ cQ x0 sg C) (hR : zRi cI m0 sg Rr) (hP : va_P (dC, dI) vwCl (C ++ ((o0, .inl (cJ, 1, .inr (.inl fo))) :: Rr)) H) (hD : va_D (fun q : Nat => s.heap.size ≤ q) (C ++ ((o0, .inl (cJ, 1, .inr (.inl fo))) :: Rr))) (hS : va_S (fun q : Nat => s.heap.size ≤ q) s.heap H locs) (hl : lv_has ls 7 [(0, .ref b), (1, .ref x0), (2, .ref m0), (3, .ref o0), (4, .int i)]) (hi0 : 0 ≤ i.toInt) (hiL : i.toInt + 7 ≤ (L : Int)) (hk : k + 3 ≤ 601024) (hn : n + 300 ≤ 7293034) (J : ∀ (sg : zSy) (C Rr : va_W) (fo : Nat → Int64) (H : Heap) (locs : List Loc) (ls : Array Slot), zOkG sg → zCi cI cJ cQ x0 sg C → zRi cI m0 sg Rr → va_P (dC, dI) vwCl (C ++ ((o0, .inl (cJ, 1, .inr (.inl fo))) :: Rr)) H → va_D (fun q : Nat => s.heap.size ≤ q) (C ++ ((o0, .inl (cJ, 1, .inr (.inl fo))) :: Rr)) → va_S (fun q : Nat => s.heap.size ≤ q) s.heap H locs → lv_has ls 7 [(0, .ref b), (1, .ref x0), (2, .ref m0), (3, .ref o0), (4, .int i)] → W p l e room_1 s m #[Value.ref b] below meth c H locs (k + 3) (n + 300) (lw_Z below #[Value.ref b] s) (F0 m 1825 ls [])) : W p l e room_1 s m #[Value.ref b] below meth c H locs k n (lw_Z below #[Value.ref b] s) (F0 m 1513 ls []) := by
  obtain ⟨hx, hb, hr, hml, hown, hts0, hX, hbl, hlocks, hgv⟩ := id C0
  have hts : ∀ w ∈ wA, w.before #[Value.ref b] s = true := fun w h => hts0 w (List.mem_filter.mp h).1
  have hown : s.vm.findClass RL = some m.cls := hown
  have hcf : CallFix p m c code 7 s #[Value.ref b] wA RL := ⟨hx, hb, hml, hown, hts⟩
  have hbA : ¬ (fun q : Nat => s.heap.size ≤ q) b := Nat.not_le.mpr hbl
  refine lv_aload_n hx hb dL_law_1513 rfl (lv_at hl 1 rfl) ?_
  refine lv_aload_n hx hb dL_law_1514 rfl (lv_at hl 0 rfl) ?_
  refine lv_iload hx hb dL_law_1515 (lv_at hl 4 rfl) ?_
  refine lv_iconst (v := 1) hx hb dL_law_1517 (by decide) ?_
  refine lv_iadd hx hb dL_law_1518 ?_
  refine lv_topi (fun v1518 e1518 => ?_)
  have i1518 : v1518.toInt = i.toInt + 1 := zadd e1518 rfl (by decide) (by omega) (by omega)
  refine va_sld hx hb hX hbl hbA hS (vp_in_iff.mpr ⟨by omega, by omega⟩) dL_law_1519 ?_
  refine lv_topi (fun v1519 e1519 => ?_)
  refine lv_aload_n hx hb dL_law_1520 rfl (lv_at hl 0 rfl) ?_
  refine lv_iload hx hb dL_law_1521 (lv_at hl 4 rfl) ?_
  refine lv_iconst (v := 2) hx hb dL_law_1523 (by decide) ?_
  refine lv_iadd hx hb dL_law_1524 ?_
  refine lv_topi (fun v1524 e1524 => ?_)
  have i1524 : v1524.toInt = i.toInt + 2 := zadd e1524 rfl (by decide) (by omega) (by omega)
  refine va_sld hx hb hX hbl hbA hS (vp_in_iff.mpr ⟨by omega, by omega⟩) dL_law_1525 ?_
  refine lv_topi (fun v1525 e1525 => ?_)
  refine k_X10_whose (rest := []) hcf hK3 hV hC hO hP hD hS (fun _ h => h) hl.1 (Nat.le_of_ble_eq_true rfl) (by show k + 0 ≤ 601024; omega) (by show n + 0 ≤ 7293034; omega) dL_law_1526 (fun v1526 C H locs hv1 hC hP hD hS => ?_)
  refine lv_pop hx hb dL_law_1529 rfl ?_
  refine lv_aload_n hx hb dL_law_1530 rfl (lv_at hl 2 rfl) ?_
  refine lv_aload_n hx hb dL_law_1531 rfl (lv_at hl 0 rfl) ?_
  refine lv_iload hx hb dL_law_1532 (lv_at hl 4 rfl) ?_
  refine lv_iconst (v := 1) hx hb dL_law_1534 (by decide) ?_
  refine lv_iadd hx hb dL_law_1535 ?_
  refine lv_topi (fun v1535 e1535 => ?_)
  have i1535 : v1535.toInt = i.toInt + 1 := zadd e1535 rfl (by decide) (by omega) (by omega)
  refine va_sld hx hb hX hbl hbA hS (vp_in_iff.mpr ⟨by omega, by omega⟩) dL_law_1536 ?_
  refine lv_topi (fun v1536 e1536 => ?_)
  refine lv_aload_n hx hb dL_law_1537 rfl (lv_at hl 0 rfl) ?_
  refine lv_iload hx hb dL_law_1538 (lv_at hl 4 rfl) ?_
  refine lv_iconst (v := 2) hx hb dL_law_1540 (by decide) ?_
  refine lv_iadd hx hb dL_law_1541 ?_
  refine lv_topi (fun v1541 e1541 => ?_)
  have i1541 : v1541.toInt = i.toInt + 2 := zadd e1541 rfl (by decide) (by omega) (by omega)
  refine va_sld hx hb hX hbl hbA hS (vp_in_iff.mpr ⟨by omega, by omega⟩) dL_law_1542 ?_
  refine lv_topi (fun v1542 e1542 => ?_)
  have hP := zRotP hP
  have hD := zRotD hD
  refine k_X11_whose (rest := []) hcf hK3 hV hR hO hP hD hS (fun _ h => h) hl.1 (Nat.le_of_ble_eq_true rfl) (by show k + 0 ≤ 601024; omega) (by show n + 0 ≤ 7293034; omega) dL_law_1543 (fun v1543 Rr H locs hv2 hR hP hD hS => ?_)
  have hP := zRotP' hP
  have hD := zRotD' hD
  have ev0 : v1536 = v1519 := by rw [e1536, e1519, e1535, e1518]
  rw [ev0] at hv2
  have ev1 : v1542 = v1525 := by rw [e1542, e1525, e1541, e1524]
  rw [ev1] at hv2
  have er : v1526.toInt = v1543.toInt := congrArg Int32.toInt (hv1.trans hv2.symm)
  refine lv_pop hx hb dL_law_1546 rfl ?_
  refine lv_goto (tgt := 1825) hx hb dL_law_1547 (by decide) ?_
  refine W.widen (k := k + 3) (n := n + 300) (by omega) (by omega) ?_
  exact J _ C Rr fo H locs ls hO hC hR hP hD hS (lv_sub hl [0, 1, 2, 3, 4] rfl)
set_option maxHeartbeats 4000000 in
set_option maxRecDepth 100000 in
theorem law_case_37 {p : Program} {l : Launch} {e : Env} {s : State} {m : MethodId} {below : List Frame} {meth : Method} {c : Code} {b L : Nat} {xs : Nat → Int32} {dC : Nat → ClassId} {dI : Nat → Nat → Nat} {cI cJ cQ : ClassId} {x0 m0 o0 : Nat} (hl0 : l.stackTraces = false) (C0 : lw_At p s m meth c b L xs) (hK3 : va_K (dC, dI) vwCl [(cI, .int), (cJ, .long), (cQ, .object "NinePortraits$Law")] s) (hV : zV (fun q : Nat => s.heap.size ≤ q) s) (hG : zG (fun q : Nat => s.heap.size ≤ q) s) (hCa : zCa s) (hL : L ≤ 3584) {sg : zSy} {C Rr : va_W} {fo : Nat → Int64} {i : Int32} {H : Heap} {locs : List Loc} {ls : Array Slot} {k n : Nat} (hO : zOkG sg) (hC : zCi cI cJ cQ x0 sg C) (hR : zRi cI m0 sg Rr) (hP : va_P (dC, dI) vwCl (C ++ ((o0, .inl (cJ, 1, .inr (.inl fo))) :: Rr)) H) (hD : va_D (fun q : Nat => s.heap.size ≤ q) (C ++ ((o0, .inl (cJ, 1, .inr (.inl fo))) :: Rr))) (hS : va_S (fun q : Nat => s.heap.size ≤ q) s.heap H locs) (hl : lv_has ls 7 [(0, .ref b), (1, .ref x0), (2, .ref m0), (3, .ref o0), (4, .int i)]) (hi0 : 0 ≤ i.toInt) (hiL : i.toInt + 7 ≤ (L : Int)) (hk : k + 3 ≤ 601024) (hn : n + 300 ≤ 7293034) (J : ∀ (sg : zSy) (C Rr : va_W) (fo : Nat → Int64) (H : Heap) (locs : List Loc) (ls : Array Slot), zOkG sg → zCi cI cJ cQ x0 sg C → zRi cI m0 sg Rr → va_P (dC, dI) vwCl (C ++ ((o0, .inl (cJ, 1, .inr (.inl fo))) :: Rr)) H → va_D (fun q : Nat => s.heap.size ≤ q) (C ++ ((o0, .inl (cJ, 1, .inr (.inl fo))) :: Rr)) → va_S (fun q : Nat => s.heap.size ≤ q) s.heap H locs → lv_has ls 7 [(0, .ref b), (1, .ref x0), (2, .ref m0), (3, .ref o0), (4, .int i)] → W p l e room_1 s m #[Value.ref b] below meth c H locs (k + 3) (n + 300) (lw_Z below #[Value.ref b] s) (F0 m 1825 ls [])) : W p l e room_1 s m #[Value.ref b] below meth c H locs k n (lw_Z below #[Value.ref b] s) (F0 m 1550 ls []) := by
  obtain ⟨hx, hb, hr, hml, hown, hts0, hX, hbl, hlocks, hgv⟩ := id C0
  have hts : ∀ w ∈ wA, w.before #[Value.ref b] s = true := fun w h => hts0 w (List.mem_filter.mp h).1
  have hown : s.vm.findClass RL = some m.cls := hown
  have hcf : CallFix p m c code 7 s #[Value.ref b] wA RL := ⟨hx, hb, hml, hown, hts⟩
  have hbA : ¬ (fun q : Nat => s.heap.size ≤ q) b := Nat.not_le.mpr hbl
  refine lv_aload_n hx hb dL_law_1550 rfl (lv_at hl 1 rfl) ?_
  refine lv_aload_n hx hb dL_law_1551 rfl (lv_at hl 0 rfl) ?_
  refine lv_iload hx hb dL_law_1552 (lv_at hl 4 rfl) ?_
  refine lv_iconst (v := 1) hx hb dL_law_1554 (by decide) ?_
  refine lv_iadd hx hb dL_law_1555 ?_
  refine lv_topi (fun v1555 e1555 => ?_)
  have i1555 : v1555.toInt = i.toInt + 1 := zadd e1555 rfl (by decide) (by omega) (by omega)
  refine va_sld hx hb hX hbl hbA hS (vp_in_iff.mpr ⟨by omega, by omega⟩) dL_law_1556 ?_
  refine lv_topi (fun v1556 e1556 => ?_)
  refine lv_aload_n hx hb dL_law_1557 rfl (lv_at hl 0 rfl) ?_
  refine lv_iload hx hb dL_law_1558 (lv_at hl 4 rfl) ?_
  refine lv_iconst (v := 2) hx hb dL_law_1560 (by decide) ?_
  refine lv_iadd hx hb dL_law_1561 ?_
  refine lv_topi (fun v1561 e1561 => ?_)
  have i1561 : v1561.toInt = i.toInt + 2 := zadd e1561 rfl (by decide) (by omega) (by omega)
  refine va_sld hx hb hX hbl hbA hS (vp_in_iff.mpr ⟨by omega, by omega⟩) dL_law_1562 ?_
  refine lv_topi (fun v1562 e1562 => ?_)
  refine lv_aload_n hx hb dL_law_1563 rfl (lv_at hl 0 rfl) ?_
  refine lv_iload hx hb dL_law_1564 (lv_at hl 4 rfl) ?_
  refine lv_iconst (v := 3) hx hb dL_law_1566 (by decide) ?_
  refine lv_iadd hx hb dL_law_1567 ?_
  refine lv_topi (fun v1567 e1567 => ?_)
  have i1567 : v1567.toInt = i.toInt + 3 := zadd e1567 rfl (by decide) (by omega) (by omega)
  refine va_sld hx hb hX hbl hbA hS (vp_in_iff.mpr ⟨by omega, by omega⟩) dL_law_1568 ?_
  refine lv_topi (fun v1568 e1568 => ?_)
  refine k_X10_heads (rest := []) hcf hK3 hV hC hO hP hD hS (fun _ h => h) hl.1 (Nat.le_of_ble_eq_true rfl) (by show k + 0 ≤ 601024; omega) (by show n + 0 ≤ 7293034; omega) dL_law_1569 (fun v1569 C H locs hv1 hC hP hD hS => ?_)
  refine lv_pop hx hb dL_law_1572 rfl ?_
  refine lv_aload_n hx hb dL_law_1573 rfl (lv_at hl 2 rfl) ?_
  refine lv_aload_n hx hb dL_law_1574 rfl (lv_at hl 0 rfl) ?_
  refine lv_iload hx hb dL_law_1575 (lv_at hl 4 rfl) ?_
  refine lv_iconst (v := 1) hx hb dL_law_1577 (by decide) ?_
  refine lv_iadd hx hb dL_law_1578 ?_
  refine lv_topi (fun v1578 e1578 => ?_)
  have i1578 : v1578.toInt = i.toInt + 1 := zadd e1578 rfl (by decide) (by omega) (by omega)
  refine va_sld hx hb hX hbl hbA hS (vp_in_iff.mpr ⟨by omega, by omega⟩) dL_law_1579 ?_
  refine lv_topi (fun v1579 e1579 => ?_)
  refine lv_aload_n hx hb dL_law_1580 rfl (lv_at hl 0 rfl) ?_
  refine lv_iload hx hb dL_law_1581 (lv_at hl 4 rfl) ?_
  refine lv_iconst (v := 2) hx hb dL_law_1583 (by decide) ?_
  refine lv_iadd hx hb dL_law_1584 ?_
  refine lv_topi (fun v1584 e1584 => ?_)
  have i1584 : v1584.toInt = i.toInt + 2 := zadd e1584 rfl (by decide) (by omega) (by omega)
  refine va_sld hx hb hX hbl hbA hS (vp_in_iff.mpr ⟨by omega, by omega⟩) dL_law_1585 ?_
  refine lv_topi (fun v1585 e1585 => ?_)
  refine lv_aload_n hx hb dL_law_1586 rfl (lv_at hl 0 rfl) ?_
  refine lv_iload hx hb dL_law_1587 (lv_at hl 4 rfl) ?_
  refine lv_iconst (v := 3) hx hb dL_law_1589 (by decide) ?_
  refine lv_iadd hx hb dL_law_1590 ?_
  refine lv_topi (fun v1590 e1590 => ?_)
  have i1590 : v1590.toInt = i.toInt + 3 := zadd e1590 rfl (by decide) (by omega) (by omega)
  refine va_sld hx hb hX hbl hbA hS (vp_in_iff.mpr ⟨by omega, by omega⟩) dL_law_1591 ?_
  refine lv_topi (fun v1591 e1591 => ?_)
  have hP := zRotP hP
  have hD := zRotD hD
  refine k_X11_heads (rest := []) hcf hK3 hV hR hO hP hD hS (fun _ h => h) hl.1 (Nat.le_of_ble_eq_true rfl) (by show k + 0 ≤ 601024; omega) (by show n + 0 ≤ 7293034; omega) dL_law_1592 (fun v1592 Rr H locs hv2 hR hP hD hS => ?_)
  have hP := zRotP' hP
  have hD := zRotD' hD
  have ev0 : v1579 = v1556 := by rw [e1579, e1556, e1578, e1555]
  rw [ev0] at hv2
  have ev1 : v1585 = v1562 := by rw [e1585, e1562, e1584, e1561]
  rw [ev1] at hv2
  have ev2 : v1591 = v1568 := by rw [e1591, e1568, e1590, e1567]
  rw [ev2] at hv2
  have er : v1569.toInt = v1592.toInt := congrArg Int32.toInt (hv1.trans hv2.symm)
  refine lv_pop hx hb dL_law_1595 rfl ?_
  refine lv_goto (tgt := 1825) hx hb dL_law_1596 (by decide) ?_
  refine W.widen (k := k + 3) (n := n + 300) (by omega) (by omega) ?_
  exact J _ C Rr fo H locs ls hO hC hR hP hD hS (lv_sub hl [0, 1, 2, 3, 4] rfl)
set_option maxHeartbeats 4000000 in
set_option maxRecDepth 100000 in
theorem law_case_38 {p : Program} {l : Launch} {e : Env} {s : State} {m : MethodId} {below : List Frame} {meth : Method} {c : Code} {b L : Nat} {xs : Nat → Int32} {dC : Nat → ClassId} {dI : Nat → Nat → Nat} {cI cJ cQ : ClassId} {x0 m0 o0 : Nat} (hl0 : l.stackTraces = false) (C0 : lw_At p s m meth c b L xs) (hK3 : va_K (dC, dI) vwCl [(cI, .int), (cJ, .long), (cQ, .object "NinePortraits$Law")] s) (hV : zV (fun q : Nat => s.heap.size ≤ q) s) (hG : zG (fun q : Nat => s.heap.size ≤ q) s) (hCa : zCa s) (hL : L ≤ 3584) {sg : zSy} {C Rr : va_W} {fo : Nat → Int64} {i : Int32} {H : Heap} {locs : List Loc} {ls : Array Slot} {k n : Nat} (hO : zOkG sg) (hC : zCi cI cJ cQ x0 sg C) (hR : zRi cI m0 sg Rr) (hP : va_P (dC, dI) vwCl (C ++ ((o0, .inl (cJ, 1, .inr (.inl fo))) :: Rr)) H) (hD : va_D (fun q : Nat => s.heap.size ≤ q) (C ++ ((o0, .inl (cJ, 1, .inr (.inl fo))) :: Rr))) (hS : va_S (fun q : Nat => s.heap.size ≤ q) s.heap H locs) (hl : lv_has ls 7 [(0, .ref b), (1, .ref x0), (2, .ref m0), (3, .ref o0), (4, .int i)]) (hi0 : 0 ≤ i.toInt) (hiL : i.toInt + 7 ≤ (L : Int)) (hk : k + 3 ≤ 601024) (hn : n + 300 ≤ 7293034) (J : ∀ (sg : zSy) (C Rr : va_W) (fo : Nat → Int64) (H : Heap) (locs : List Loc) (ls : Array Slot), zOkG sg → zCi cI cJ cQ x0 sg C → zRi cI m0 sg Rr → va_P (dC, dI) vwCl (C ++ ((o0, .inl (cJ, 1, .inr (.inl fo))) :: Rr)) H → va_D (fun q : Nat => s.heap.size ≤ q) (C ++ ((o0, .inl (cJ, 1, .inr (.inl fo))) :: Rr)) → va_S (fun q : Nat => s.heap.size ≤ q) s.heap H locs → lv_has ls 7 [(0, .ref b), (1, .ref x0), (2, .ref m0), (3, .ref o0), (4, .int i)] → W p l e room_1 s m #[Value.ref b] below meth c H locs (k + 3) (n + 300) (lw_Z below #[Value.ref b] s) (F0 m 1825 ls [])) : W p l e room_1 s m #[Value.ref b] below meth c H locs k n (lw_Z below #[Value.ref b] s) (F0 m 1599 ls []) := by
  obtain ⟨hx, hb, hr, hml, hown, hts0, hX, hbl, hlocks, hgv⟩ := id C0
  have hts : ∀ w ∈ wA, w.before #[Value.ref b] s = true := fun w h => hts0 w (List.mem_filter.mp h).1
  have hown : s.vm.findClass RL = some m.cls := hown
  have hcf : CallFix p m c code 7 s #[Value.ref b] wA RL := ⟨hx, hb, hml, hown, hts⟩
  have hbA : ¬ (fun q : Nat => s.heap.size ≤ q) b := Nat.not_le.mpr hbl
  refine lv_aload_n hx hb dL_law_1599 rfl (lv_at hl 1 rfl) ?_
  refine lv_aload_n hx hb dL_law_1600 rfl (lv_at hl 0 rfl) ?_
  refine lv_iload hx hb dL_law_1601 (lv_at hl 4 rfl) ?_
  refine lv_iconst (v := 1) hx hb dL_law_1603 (by decide) ?_
  refine lv_iadd hx hb dL_law_1604 ?_
  refine lv_topi (fun v1604 e1604 => ?_)
  have i1604 : v1604.toInt = i.toInt + 1 := zadd e1604 rfl (by decide) (by omega) (by omega)
  refine va_sld hx hb hX hbl hbA hS (vp_in_iff.mpr ⟨by omega, by omega⟩) dL_law_1605 ?_
  refine lv_topi (fun v1605 e1605 => ?_)
  refine k_X10_matched (rest := []) hcf hK3 hV hC hO hP hD hS (fun _ h => h) hl.1 (Nat.le_of_ble_eq_true rfl) (by show k + 0 ≤ 601024; omega) (by show n + 0 ≤ 7293034; omega) dL_law_1606 (fun v1606 C H locs hv1 hC hP hD hS => ?_)
  refine lv_pop hx hb dL_law_1609 rfl ?_
  refine lv_aload_n hx hb dL_law_1610 rfl (lv_at hl 2 rfl) ?_
  refine lv_aload_n hx hb dL_law_1611 rfl (lv_at hl 0 rfl) ?_
  refine lv_iload hx hb dL_law_1612 (lv_at hl 4 rfl) ?_
  refine lv_iconst (v := 1) hx hb dL_law_1614 (by decide) ?_
  refine lv_iadd hx hb dL_law_1615 ?_
  refine lv_topi (fun v1615 e1615 => ?_)
  have i1615 : v1615.toInt = i.toInt + 1 := zadd e1615 rfl (by decide) (by omega) (by omega)
  refine va_sld hx hb hX hbl hbA hS (vp_in_iff.mpr ⟨by omega, by omega⟩) dL_law_1616 ?_
  refine lv_topi (fun v1616 e1616 => ?_)
  have hP := zRotP hP
  have hD := zRotD hD
  refine k_X11_matched (rest := []) hcf hK3 hV hR hO hP hD hS (fun _ h => h) hl.1 (Nat.le_of_ble_eq_true rfl) (by show k + 0 ≤ 601024; omega) (by show n + 0 ≤ 7293034; omega) dL_law_1617 (fun v1617 Rr H locs hv2 hR hP hD hS => ?_)
  have hP := zRotP' hP
  have hD := zRotD' hD
  have ev0 : v1616 = v1605 := by rw [e1616, e1605, e1615, e1604]
  rw [ev0] at hv2
  have er : v1606.toInt = v1617.toInt := hv1.trans hv2.symm
  refine lv_pop hx hb dL_law_1620 rfl ?_
  refine lv_goto (tgt := 1825) hx hb dL_law_1621 (by decide) ?_
  refine W.widen (k := k + 3) (n := n + 300) (by omega) (by omega) ?_
  exact J _ C Rr fo H locs ls hO hC hR hP hD hS (lv_sub hl [0, 1, 2, 3, 4] rfl)
set_option maxHeartbeats 4000000 in
set_option maxRecDepth 100000 in
theorem law_case_39 {p : Program} {l : Launch} {e : Env} {s : State} {m : MethodId} {below : List Frame} {meth : Method} {c : Code} {b L : Nat} {xs : Nat → Int32} {dC : Nat → ClassId} {dI : Nat → Nat → Nat} {cI cJ cQ : ClassId} {x0 m0 o0 : Nat} (hl0 : l.stackTraces = false) (C0 : lw_At p s m meth c b L xs) (hK3 : va_K (dC, dI) vwCl [(cI, .int), (cJ, .long), (cQ, .object "NinePortraits$Law")] s) (hV : zV (fun q : Nat => s.heap.size ≤ q) s) (hG : zG (fun q : Nat => s.heap.size ≤ q) s) (hCa : zCa s) (hL : L ≤ 3584) {sg : zSy} {C Rr : va_W} {fo : Nat → Int64} {i : Int32} {H : Heap} {locs : List Loc} {ls : Array Slot} {k n : Nat} (hO : zOkG sg) (hC : zCi cI cJ cQ x0 sg C) (hR : zRi cI m0 sg Rr) (hP : va_P (dC, dI) vwCl (C ++ ((o0, .inl (cJ, 1, .inr (.inl fo))) :: Rr)) H) (hD : va_D (fun q : Nat => s.heap.size ≤ q) (C ++ ((o0, .inl (cJ, 1, .inr (.inl fo))) :: Rr))) (hS : va_S (fun q : Nat => s.heap.size ≤ q) s.heap H locs) (hl : lv_has ls 7 [(0, .ref b), (1, .ref x0), (2, .ref m0), (3, .ref o0), (4, .int i)]) (hi0 : 0 ≤ i.toInt) (hiL : i.toInt + 7 ≤ (L : Int)) (hk : k + 3 ≤ 601024) (hn : n + 300 ≤ 7293034) (J : ∀ (sg : zSy) (C Rr : va_W) (fo : Nat → Int64) (H : Heap) (locs : List Loc) (ls : Array Slot), zOkG sg → zCi cI cJ cQ x0 sg C → zRi cI m0 sg Rr → va_P (dC, dI) vwCl (C ++ ((o0, .inl (cJ, 1, .inr (.inl fo))) :: Rr)) H → va_D (fun q : Nat => s.heap.size ≤ q) (C ++ ((o0, .inl (cJ, 1, .inr (.inl fo))) :: Rr)) → va_S (fun q : Nat => s.heap.size ≤ q) s.heap H locs → lv_has ls 7 [(0, .ref b), (1, .ref x0), (2, .ref m0), (3, .ref o0), (4, .int i)] → W p l e room_1 s m #[Value.ref b] below meth c H locs (k + 3) (n + 300) (lw_Z below #[Value.ref b] s) (F0 m 1825 ls [])) : W p l e room_1 s m #[Value.ref b] below meth c H locs k n (lw_Z below #[Value.ref b] s) (F0 m 1624 ls []) := by
  obtain ⟨hx, hb, hr, hml, hown, hts0, hX, hbl, hlocks, hgv⟩ := id C0
  have hts : ∀ w ∈ wA, w.before #[Value.ref b] s = true := fun w h => hts0 w (List.mem_filter.mp h).1
  have hown : s.vm.findClass RL = some m.cls := hown
  have hcf : CallFix p m c code 7 s #[Value.ref b] wA RL := ⟨hx, hb, hml, hown, hts⟩
  have hbA : ¬ (fun q : Nat => s.heap.size ≤ q) b := Nat.not_le.mpr hbl
  refine lv_aload_n hx hb dL_law_1624 rfl (lv_at hl 1 rfl) ?_
  refine lv_aload_n hx hb dL_law_1625 rfl (lv_at hl 0 rfl) ?_
  refine lv_iload hx hb dL_law_1626 (lv_at hl 4 rfl) ?_
  refine lv_iconst (v := 1) hx hb dL_law_1628 (by decide) ?_
  refine lv_iadd hx hb dL_law_1629 ?_
  refine lv_topi (fun v1629 e1629 => ?_)
  have i1629 : v1629.toInt = i.toInt + 1 := zadd e1629 rfl (by decide) (by omega) (by omega)
  refine va_sld hx hb hX hbl hbA hS (vp_in_iff.mpr ⟨by omega, by omega⟩) dL_law_1630 ?_
  refine lv_topi (fun v1630 e1630 => ?_)
  refine k_X10_most (rest := []) hcf hK3 hV hC hO hP hD hS (fun _ h => h) hl.1 (Nat.le_of_ble_eq_true rfl) (by show k + 0 ≤ 601024; omega) (by show n + 0 ≤ 7293034; omega) dL_law_1631 (fun v1631 C H locs hv1 hC hP hD hS => ?_)
  refine lv_pop hx hb dL_law_1634 rfl ?_
  refine lv_aload_n hx hb dL_law_1635 rfl (lv_at hl 2 rfl) ?_
  refine lv_aload_n hx hb dL_law_1636 rfl (lv_at hl 0 rfl) ?_
  refine lv_iload hx hb dL_law_1637 (lv_at hl 4 rfl) ?_
  refine lv_iconst (v := 1) hx hb dL_law_1639 (by decide) ?_
  refine lv_iadd hx hb dL_law_1640 ?_
  refine lv_topi (fun v1640 e1640 => ?_)
  have i1640 : v1640.toInt = i.toInt + 1 := zadd e1640 rfl (by decide) (by omega) (by omega)
  refine va_sld hx hb hX hbl hbA hS (vp_in_iff.mpr ⟨by omega, by omega⟩) dL_law_1641 ?_
  refine lv_topi (fun v1641 e1641 => ?_)
  have hP := zRotP hP
  have hD := zRotD hD
  refine k_X11_most (rest := []) hcf hK3 hV hR hO hP hD hS (fun _ h => h) hl.1 (Nat.le_of_ble_eq_true rfl) (by show k + 0 ≤ 601024; omega) (by show n + 0 ≤ 7293034; omega) dL_law_1642 (fun v1642 Rr H locs hv2 hR hP hD hS => ?_)
  have hP := zRotP' hP
  have hD := zRotD' hD
  have ev0 : v1641 = v1630 := by rw [e1641, e1630, e1640, e1629]
  rw [ev0] at hv2
  have er : v1631.toInt = v1642.toInt := congrArg Int32.toInt (hv1.trans hv2.symm)
  refine lv_pop hx hb dL_law_1645 rfl ?_
  refine lv_goto (tgt := 1825) hx hb dL_law_1646 (by decide) ?_
  refine W.widen (k := k + 3) (n := n + 300) (by omega) (by omega) ?_
  exact J _ C Rr fo H locs ls hO hC hR hP hD hS (lv_sub hl [0, 1, 2, 3, 4] rfl)
set_option maxHeartbeats 4000000 in
set_option maxRecDepth 100000 in
theorem law_case_40 {p : Program} {l : Launch} {e : Env} {s : State} {m : MethodId} {below : List Frame} {meth : Method} {c : Code} {b L : Nat} {xs : Nat → Int32} {dC : Nat → ClassId} {dI : Nat → Nat → Nat} {cI cJ cQ : ClassId} {x0 m0 o0 : Nat} (hl0 : l.stackTraces = false) (C0 : lw_At p s m meth c b L xs) (hK3 : va_K (dC, dI) vwCl [(cI, .int), (cJ, .long), (cQ, .object "NinePortraits$Law")] s) (hV : zV (fun q : Nat => s.heap.size ≤ q) s) (hG : zG (fun q : Nat => s.heap.size ≤ q) s) (hCa : zCa s) (hL : L ≤ 3584) {sg : zSy} {C Rr : va_W} {fo : Nat → Int64} {i : Int32} {H : Heap} {locs : List Loc} {ls : Array Slot} {k n : Nat} (hO : zOkG sg) (hC : zCi cI cJ cQ x0 sg C) (hR : zRi cI m0 sg Rr) (hP : va_P (dC, dI) vwCl (C ++ ((o0, .inl (cJ, 1, .inr (.inl fo))) :: Rr)) H) (hD : va_D (fun q : Nat => s.heap.size ≤ q) (C ++ ((o0, .inl (cJ, 1, .inr (.inl fo))) :: Rr))) (hS : va_S (fun q : Nat => s.heap.size ≤ q) s.heap H locs) (hl : lv_has ls 7 [(0, .ref b), (1, .ref x0), (2, .ref m0), (3, .ref o0), (4, .int i)]) (hi0 : 0 ≤ i.toInt) (hiL : i.toInt + 7 ≤ (L : Int)) (hk : k + 3 ≤ 601024) (hn : n + 300 ≤ 7293034) (J : ∀ (sg : zSy) (C Rr : va_W) (fo : Nat → Int64) (H : Heap) (locs : List Loc) (ls : Array Slot), zOkG sg → zCi cI cJ cQ x0 sg C → zRi cI m0 sg Rr → va_P (dC, dI) vwCl (C ++ ((o0, .inl (cJ, 1, .inr (.inl fo))) :: Rr)) H → va_D (fun q : Nat => s.heap.size ≤ q) (C ++ ((o0, .inl (cJ, 1, .inr (.inl fo))) :: Rr)) → va_S (fun q : Nat => s.heap.size ≤ q) s.heap H locs → lv_has ls 7 [(0, .ref b), (1, .ref x0), (2, .ref m0), (3, .ref o0), (4, .int i)] → W p l e room_1 s m #[Value.ref b] below meth c H locs (k + 3) (n + 300) (lw_Z below #[Value.ref b] s) (F0 m 1825 ls [])) : W p l e room_1 s m #[Value.ref b] below meth c H locs k n (lw_Z below #[Value.ref b] s) (F0 m 1649 ls []) := by
  obtain ⟨hx, hb, hr, hml, hown, hts0, hX, hbl, hlocks, hgv⟩ := id C0
  have hts : ∀ w ∈ wA, w.before #[Value.ref b] s = true := fun w h => hts0 w (List.mem_filter.mp h).1
  have hown : s.vm.findClass RL = some m.cls := hown
  have hcf : CallFix p m c code 7 s #[Value.ref b] wA RL := ⟨hx, hb, hml, hown, hts⟩
  have hbA : ¬ (fun q : Nat => s.heap.size ≤ q) b := Nat.not_le.mpr hbl
  refine lv_aload_n hx hb dL_law_1649 rfl (lv_at hl 1 rfl) ?_
  refine lv_aload_n hx hb dL_law_1650 rfl (lv_at hl 0 rfl) ?_
  refine lv_iload hx hb dL_law_1651 (lv_at hl 4 rfl) ?_
  refine lv_iconst (v := 1) hx hb dL_law_1653 (by decide) ?_
  refine lv_iadd hx hb dL_law_1654 ?_
  refine lv_topi (fun v1654 e1654 => ?_)
  have i1654 : v1654.toInt = i.toInt + 1 := zadd e1654 rfl (by decide) (by omega) (by omega)
  refine va_sld hx hb hX hbl hbA hS (vp_in_iff.mpr ⟨by omega, by omega⟩) dL_law_1655 ?_
  refine lv_topi (fun v1655 e1655 => ?_)
  refine k_X10_seen (rest := []) hcf hK3 hV hC hO hP hD hS (fun _ h => h) hl.1 (Nat.le_of_ble_eq_true rfl) (by show k + 0 ≤ 601024; omega) (by show n + 0 ≤ 7293034; omega) dL_law_1656 (fun v1656 C H locs hv1 hC hP hD hS => ?_)
  refine lv_pop hx hb dL_law_1659 rfl ?_
  refine lv_aload_n hx hb dL_law_1660 rfl (lv_at hl 2 rfl) ?_
  refine lv_aload_n hx hb dL_law_1661 rfl (lv_at hl 0 rfl) ?_
  refine lv_iload hx hb dL_law_1662 (lv_at hl 4 rfl) ?_
  refine lv_iconst (v := 1) hx hb dL_law_1664 (by decide) ?_
  refine lv_iadd hx hb dL_law_1665 ?_
  refine lv_topi (fun v1665 e1665 => ?_)
  have i1665 : v1665.toInt = i.toInt + 1 := zadd e1665 rfl (by decide) (by omega) (by omega)
  refine va_sld hx hb hX hbl hbA hS (vp_in_iff.mpr ⟨by omega, by omega⟩) dL_law_1666 ?_
  refine lv_topi (fun v1666 e1666 => ?_)
  have hP := zRotP hP
  have hD := zRotD hD
  refine k_X11_seen (rest := []) hcf hK3 hV hR hO hP hD hS (fun _ h => h) hl.1 (Nat.le_of_ble_eq_true rfl) (by show k + 0 ≤ 601024; omega) (by show n + 0 ≤ 7293034; omega) dL_law_1667 (fun v1667 Rr H locs hv2 hR hP hD hS => ?_)
  have hP := zRotP' hP
  have hD := zRotD' hD
  have ev0 : v1666 = v1655 := by rw [e1666, e1655, e1665, e1654]
  rw [ev0] at hv2
  have er : v1656.toInt = v1667.toInt := congrArg Int32.toInt (hv1.trans hv2.symm)
  refine lv_pop hx hb dL_law_1670 rfl ?_
  refine lv_goto (tgt := 1825) hx hb dL_law_1671 (by decide) ?_
  refine W.widen (k := k + 3) (n := n + 300) (by omega) (by omega) ?_
  exact J _ C Rr fo H locs ls hO hC hR hP hD hS (lv_sub hl [0, 1, 2, 3, 4] rfl)
set_option maxHeartbeats 4000000 in
set_option maxRecDepth 100000 in
theorem law_case_41 {p : Program} {l : Launch} {e : Env} {s : State} {m : MethodId} {below : List Frame} {meth : Method} {c : Code} {b L : Nat} {xs : Nat → Int32} {dC : Nat → ClassId} {dI : Nat → Nat → Nat} {cI cJ cQ : ClassId} {x0 m0 o0 : Nat} (hl0 : l.stackTraces = false) (C0 : lw_At p s m meth c b L xs) (hK3 : va_K (dC, dI) vwCl [(cI, .int), (cJ, .long), (cQ, .object "NinePortraits$Law")] s) (hV : zV (fun q : Nat => s.heap.size ≤ q) s) (hG : zG (fun q : Nat => s.heap.size ≤ q) s) (hCa : zCa s) (hL : L ≤ 3584) {sg : zSy} {C Rr : va_W} {fo : Nat → Int64} {i : Int32} {H : Heap} {locs : List Loc} {ls : Array Slot} {k n : Nat} (hO : zOkG sg) (hC : zCi cI cJ cQ x0 sg C) (hR : zRi cI m0 sg Rr) (hP : va_P (dC, dI) vwCl (C ++ ((o0, .inl (cJ, 1, .inr (.inl fo))) :: Rr)) H) (hD : va_D (fun q : Nat => s.heap.size ≤ q) (C ++ ((o0, .inl (cJ, 1, .inr (.inl fo))) :: Rr))) (hS : va_S (fun q : Nat => s.heap.size ≤ q) s.heap H locs) (hl : lv_has ls 7 [(0, .ref b), (1, .ref x0), (2, .ref m0), (3, .ref o0), (4, .int i)]) (hi0 : 0 ≤ i.toInt) (hiL : i.toInt + 7 ≤ (L : Int)) (hk : k + 3 ≤ 601024) (hn : n + 300 ≤ 7293034) (J : ∀ (sg : zSy) (C Rr : va_W) (fo : Nat → Int64) (H : Heap) (locs : List Loc) (ls : Array Slot), zOkG sg → zCi cI cJ cQ x0 sg C → zRi cI m0 sg Rr → va_P (dC, dI) vwCl (C ++ ((o0, .inl (cJ, 1, .inr (.inl fo))) :: Rr)) H → va_D (fun q : Nat => s.heap.size ≤ q) (C ++ ((o0, .inl (cJ, 1, .inr (.inl fo))) :: Rr)) → va_S (fun q : Nat => s.heap.size ≤ q) s.heap H locs → lv_has ls 7 [(0, .ref b), (1, .ref x0), (2, .ref m0), (3, .ref o0), (4, .int i)] → W p l e room_1 s m #[Value.ref b] below meth c H locs (k + 3) (n + 300) (lw_Z below #[Value.ref b] s) (F0 m 1825 ls [])) : W p l e room_1 s m #[Value.ref b] below meth c H locs k n (lw_Z below #[Value.ref b] s) (F0 m 1674 ls []) := by
  obtain ⟨hx, hb, hr, hml, hown, hts0, hX, hbl, hlocks, hgv⟩ := id C0
  have hts : ∀ w ∈ wA, w.before #[Value.ref b] s = true := fun w h => hts0 w (List.mem_filter.mp h).1
  have hown : s.vm.findClass RL = some m.cls := hown
  have hcf : CallFix p m c code 7 s #[Value.ref b] wA RL := ⟨hx, hb, hml, hown, hts⟩
  have hbA : ¬ (fun q : Nat => s.heap.size ≤ q) b := Nat.not_le.mpr hbl
  refine lv_aload_n hx hb dL_law_1674 rfl (lv_at hl 1 rfl) ?_
  refine lv_aload_n hx hb dL_law_1675 rfl (lv_at hl 0 rfl) ?_
  refine lv_iload hx hb dL_law_1676 (lv_at hl 4 rfl) ?_
  refine lv_iconst (v := 1) hx hb dL_law_1678 (by decide) ?_
  refine lv_iadd hx hb dL_law_1679 ?_
  refine lv_topi (fun v1679 e1679 => ?_)
  have i1679 : v1679.toInt = i.toInt + 1 := zadd e1679 rfl (by decide) (by omega) (by omega)
  refine va_sld hx hb hX hbl hbA hS (vp_in_iff.mpr ⟨by omega, by omega⟩) dL_law_1680 ?_
  refine lv_topi (fun v1680 e1680 => ?_)
  refine k_X10_saves (rest := []) hcf hK3 hV hC hO hP hD hS (fun _ h => h) hl.1 (Nat.le_of_ble_eq_true rfl) (by show k + 0 ≤ 601024; omega) (by show n + 0 ≤ 7293034; omega) dL_law_1681 (fun v1681 C H locs hv1 hC hP hD hS => ?_)
  refine lv_pop hx hb dL_law_1684 rfl ?_
  refine lv_aload_n hx hb dL_law_1685 rfl (lv_at hl 2 rfl) ?_
  refine lv_aload_n hx hb dL_law_1686 rfl (lv_at hl 0 rfl) ?_
  refine lv_iload hx hb dL_law_1687 (lv_at hl 4 rfl) ?_
  refine lv_iconst (v := 1) hx hb dL_law_1689 (by decide) ?_
  refine lv_iadd hx hb dL_law_1690 ?_
  refine lv_topi (fun v1690 e1690 => ?_)
  have i1690 : v1690.toInt = i.toInt + 1 := zadd e1690 rfl (by decide) (by omega) (by omega)
  refine va_sld hx hb hX hbl hbA hS (vp_in_iff.mpr ⟨by omega, by omega⟩) dL_law_1691 ?_
  refine lv_topi (fun v1691 e1691 => ?_)
  have hP := zRotP hP
  have hD := zRotD hD
  refine k_X11_saves (rest := []) hcf hK3 hV hR hO hP hD hS (fun _ h => h) hl.1 (Nat.le_of_ble_eq_true rfl) (by show k + 0 ≤ 601024; omega) (by show n + 0 ≤ 7293034; omega) dL_law_1692 (fun v1692 Rr H locs hv2 hR hP hD hS => ?_)
  have hP := zRotP' hP
  have hD := zRotD' hD
  have ev0 : v1691 = v1680 := by rw [e1691, e1680, e1690, e1679]
  rw [ev0] at hv2
  have er : v1681.toInt = v1692.toInt := congrArg Int32.toInt (hv1.trans hv2.symm)
  refine lv_pop hx hb dL_law_1695 rfl ?_
  refine lv_goto (tgt := 1825) hx hb dL_law_1696 (by decide) ?_
  refine W.widen (k := k + 3) (n := n + 300) (by omega) (by omega) ?_
  exact J _ C Rr fo H locs ls hO hC hR hP hD hS (lv_sub hl [0, 1, 2, 3, 4] rfl)
set_option maxHeartbeats 4000000 in
set_option maxRecDepth 100000 in
theorem law_case_42 {p : Program} {l : Launch} {e : Env} {s : State} {m : MethodId} {below : List Frame} {meth : Method} {c : Code} {b L : Nat} {xs : Nat → Int32} {dC : Nat → ClassId} {dI : Nat → Nat → Nat} {cI cJ cQ : ClassId} {x0 m0 o0 : Nat} (hl0 : l.stackTraces = false) (C0 : lw_At p s m meth c b L xs) (hK3 : va_K (dC, dI) vwCl [(cI, .int), (cJ, .long), (cQ, .object "NinePortraits$Law")] s) (hV : zV (fun q : Nat => s.heap.size ≤ q) s) (hG : zG (fun q : Nat => s.heap.size ≤ q) s) (hCa : zCa s) (hL : L ≤ 3584) {sg : zSy} {C Rr : va_W} {fo : Nat → Int64} {i : Int32} {H : Heap} {locs : List Loc} {ls : Array Slot} {k n : Nat} (hO : zOkG sg) (hC : zCi cI cJ cQ x0 sg C) (hR : zRi cI m0 sg Rr) (hP : va_P (dC, dI) vwCl (C ++ ((o0, .inl (cJ, 1, .inr (.inl fo))) :: Rr)) H) (hD : va_D (fun q : Nat => s.heap.size ≤ q) (C ++ ((o0, .inl (cJ, 1, .inr (.inl fo))) :: Rr))) (hS : va_S (fun q : Nat => s.heap.size ≤ q) s.heap H locs) (hl : lv_has ls 7 [(0, .ref b), (1, .ref x0), (2, .ref m0), (3, .ref o0), (4, .int i)]) (hi0 : 0 ≤ i.toInt) (hiL : i.toInt + 7 ≤ (L : Int)) (hk : k + 3 ≤ 601024) (hn : n + 300 ≤ 7293034) (J : ∀ (sg : zSy) (C Rr : va_W) (fo : Nat → Int64) (H : Heap) (locs : List Loc) (ls : Array Slot), zOkG sg → zCi cI cJ cQ x0 sg C → zRi cI m0 sg Rr → va_P (dC, dI) vwCl (C ++ ((o0, .inl (cJ, 1, .inr (.inl fo))) :: Rr)) H → va_D (fun q : Nat => s.heap.size ≤ q) (C ++ ((o0, .inl (cJ, 1, .inr (.inl fo))) :: Rr)) → va_S (fun q : Nat => s.heap.size ≤ q) s.heap H locs → lv_has ls 7 [(0, .ref b), (1, .ref x0), (2, .ref m0), (3, .ref o0), (4, .int i)] → W p l e room_1 s m #[Value.ref b] below meth c H locs (k + 3) (n + 300) (lw_Z below #[Value.ref b] s) (F0 m 1825 ls [])) : W p l e room_1 s m #[Value.ref b] below meth c H locs k n (lw_Z below #[Value.ref b] s) (F0 m 1699 ls []) := by
  obtain ⟨hx, hb, hr, hml, hown, hts0, hX, hbl, hlocks, hgv⟩ := id C0
  have hts : ∀ w ∈ wA, w.before #[Value.ref b] s = true := fun w h => hts0 w (List.mem_filter.mp h).1
  have hown : s.vm.findClass RL = some m.cls := hown
  have hcf : CallFix p m c code 7 s #[Value.ref b] wA RL := ⟨hx, hb, hml, hown, hts⟩
  have hbA : ¬ (fun q : Nat => s.heap.size ≤ q) b := Nat.not_le.mpr hbl
  refine lv_aload_n hx hb dL_law_1699 rfl (lv_at hl 1 rfl) ?_
  refine lv_aload_n hx hb dL_law_1700 rfl (lv_at hl 0 rfl) ?_
  refine lv_iload hx hb dL_law_1701 (lv_at hl 4 rfl) ?_
  refine lv_iconst (v := 1) hx hb dL_law_1703 (by decide) ?_
  refine lv_iadd hx hb dL_law_1704 ?_
  refine lv_topi (fun v1704 e1704 => ?_)
  have i1704 : v1704.toInt = i.toInt + 1 := zadd e1704 rfl (by decide) (by omega) (by omega)
  refine va_sld hx hb hX hbl hbA hS (vp_in_iff.mpr ⟨by omega, by omega⟩) dL_law_1705 ?_
  refine lv_topi (fun v1705 e1705 => ?_)
  refine k_X10_rivals (rest := []) hcf hK3 hV hC hO hP hD hS (fun _ h => h) hl.1 (Nat.le_of_ble_eq_true rfl) (by show k + 0 ≤ 601024; omega) (by show n + 0 ≤ 7293034; omega) dL_law_1706 (fun v1706 C H locs hv1 hC hP hD hS => ?_)
  refine lv_pop hx hb dL_law_1709 rfl ?_
  refine lv_aload_n hx hb dL_law_1710 rfl (lv_at hl 2 rfl) ?_
  refine lv_aload_n hx hb dL_law_1711 rfl (lv_at hl 0 rfl) ?_
  refine lv_iload hx hb dL_law_1712 (lv_at hl 4 rfl) ?_
  refine lv_iconst (v := 1) hx hb dL_law_1714 (by decide) ?_
  refine lv_iadd hx hb dL_law_1715 ?_
  refine lv_topi (fun v1715 e1715 => ?_)
  have i1715 : v1715.toInt = i.toInt + 1 := zadd e1715 rfl (by decide) (by omega) (by omega)
  refine va_sld hx hb hX hbl hbA hS (vp_in_iff.mpr ⟨by omega, by omega⟩) dL_law_1716 ?_
  refine lv_topi (fun v1716 e1716 => ?_)
  have hP := zRotP hP
  have hD := zRotD hD
  refine k_X11_rivals (rest := []) hcf hK3 hV hR hO hP hD hS (fun _ h => h) hl.1 (Nat.le_of_ble_eq_true rfl) (by show k + 0 ≤ 601024; omega) (by show n + 0 ≤ 7293034; omega) dL_law_1717 (fun v1717 Rr H locs hv2 hR hP hD hS => ?_)
  have hP := zRotP' hP
  have hD := zRotD' hD
  have ev0 : v1716 = v1705 := by rw [e1716, e1705, e1715, e1704]
  rw [ev0] at hv2
  have er : v1706.toInt = v1717.toInt := congrArg Int32.toInt (hv1.trans hv2.symm)
  refine lv_pop hx hb dL_law_1720 rfl ?_
  refine lv_goto (tgt := 1825) hx hb dL_law_1721 (by decide) ?_
  refine W.widen (k := k + 3) (n := n + 300) (by omega) (by omega) ?_
  exact J _ C Rr fo H locs ls hO hC hR hP hD hS (lv_sub hl [0, 1, 2, 3, 4] rfl)
set_option maxHeartbeats 4000000 in
set_option maxRecDepth 100000 in
theorem law_case_43 {p : Program} {l : Launch} {e : Env} {s : State} {m : MethodId} {below : List Frame} {meth : Method} {c : Code} {b L : Nat} {xs : Nat → Int32} {dC : Nat → ClassId} {dI : Nat → Nat → Nat} {cI cJ cQ : ClassId} {x0 m0 o0 : Nat} (hl0 : l.stackTraces = false) (C0 : lw_At p s m meth c b L xs) (hK3 : va_K (dC, dI) vwCl [(cI, .int), (cJ, .long), (cQ, .object "NinePortraits$Law")] s) (hV : zV (fun q : Nat => s.heap.size ≤ q) s) (hG : zG (fun q : Nat => s.heap.size ≤ q) s) (hCa : zCa s) (hL : L ≤ 3584) {sg : zSy} {C Rr : va_W} {fo : Nat → Int64} {i : Int32} {H : Heap} {locs : List Loc} {ls : Array Slot} {k n : Nat} (hO : zOkG sg) (hC : zCi cI cJ cQ x0 sg C) (hR : zRi cI m0 sg Rr) (hP : va_P (dC, dI) vwCl (C ++ ((o0, .inl (cJ, 1, .inr (.inl fo))) :: Rr)) H) (hD : va_D (fun q : Nat => s.heap.size ≤ q) (C ++ ((o0, .inl (cJ, 1, .inr (.inl fo))) :: Rr))) (hS : va_S (fun q : Nat => s.heap.size ≤ q) s.heap H locs) (hl : lv_has ls 7 [(0, .ref b), (1, .ref x0), (2, .ref m0), (3, .ref o0), (4, .int i)]) (hi0 : 0 ≤ i.toInt) (hiL : i.toInt + 7 ≤ (L : Int)) (hk : k + 3 ≤ 601024) (hn : n + 300 ≤ 7293034) (J : ∀ (sg : zSy) (C Rr : va_W) (fo : Nat → Int64) (H : Heap) (locs : List Loc) (ls : Array Slot), zOkG sg → zCi cI cJ cQ x0 sg C → zRi cI m0 sg Rr → va_P (dC, dI) vwCl (C ++ ((o0, .inl (cJ, 1, .inr (.inl fo))) :: Rr)) H → va_D (fun q : Nat => s.heap.size ≤ q) (C ++ ((o0, .inl (cJ, 1, .inr (.inl fo))) :: Rr)) → va_S (fun q : Nat => s.heap.size ≤ q) s.heap H locs → lv_has ls 7 [(0, .ref b), (1, .ref x0), (2, .ref m0), (3, .ref o0), (4, .int i)] → W p l e room_1 s m #[Value.ref b] below meth c H locs (k + 3) (n + 300) (lw_Z below #[Value.ref b] s) (F0 m 1825 ls [])) : W p l e room_1 s m #[Value.ref b] below meth c H locs k n (lw_Z below #[Value.ref b] s) (F0 m 1724 ls []) := by
  obtain ⟨hx, hb, hr, hml, hown, hts0, hX, hbl, hlocks, hgv⟩ := id C0
  have hts : ∀ w ∈ wA, w.before #[Value.ref b] s = true := fun w h => hts0 w (List.mem_filter.mp h).1
  have hown : s.vm.findClass RL = some m.cls := hown
  have hcf : CallFix p m c code 7 s #[Value.ref b] wA RL := ⟨hx, hb, hml, hown, hts⟩
  have hbA : ¬ (fun q : Nat => s.heap.size ≤ q) b := Nat.not_le.mpr hbl
  refine lv_aload_n hx hb dL_law_1724 rfl (lv_at hl 1 rfl) ?_
  refine lv_aload_n hx hb dL_law_1725 rfl (lv_at hl 0 rfl) ?_
  refine lv_iload hx hb dL_law_1726 (lv_at hl 4 rfl) ?_
  refine lv_iconst (v := 1) hx hb dL_law_1728 (by decide) ?_
  refine lv_iadd hx hb dL_law_1729 ?_
  refine lv_topi (fun v1729 e1729 => ?_)
  have i1729 : v1729.toInt = i.toInt + 1 := zadd e1729 rfl (by decide) (by omega) (by omega)
  refine va_sld hx hb hX hbl hbA hS (vp_in_iff.mpr ⟨by omega, by omega⟩) dL_law_1730 ?_
  refine lv_topi (fun v1730 e1730 => ?_)
  refine k_X10_affords (rest := []) hcf hK3 hV hC hO hP hD hS (fun _ h => h) hl.1 (Nat.le_of_ble_eq_true rfl) (by show k + 0 ≤ 601024; omega) (by show n + 0 ≤ 7293034; omega) dL_law_1731 (fun v1731 C H locs hv1 hC hP hD hS => ?_)
  refine lv_pop hx hb dL_law_1734 rfl ?_
  refine lv_aload_n hx hb dL_law_1735 rfl (lv_at hl 2 rfl) ?_
  refine lv_aload_n hx hb dL_law_1736 rfl (lv_at hl 0 rfl) ?_
  refine lv_iload hx hb dL_law_1737 (lv_at hl 4 rfl) ?_
  refine lv_iconst (v := 1) hx hb dL_law_1739 (by decide) ?_
  refine lv_iadd hx hb dL_law_1740 ?_
  refine lv_topi (fun v1740 e1740 => ?_)
  have i1740 : v1740.toInt = i.toInt + 1 := zadd e1740 rfl (by decide) (by omega) (by omega)
  refine va_sld hx hb hX hbl hbA hS (vp_in_iff.mpr ⟨by omega, by omega⟩) dL_law_1741 ?_
  refine lv_topi (fun v1741 e1741 => ?_)
  have hP := zRotP hP
  have hD := zRotD hD
  refine k_X11_affords (rest := []) hcf hK3 hV hR hO hP hD hS (fun _ h => h) hl.1 (Nat.le_of_ble_eq_true rfl) (by show k + 0 ≤ 601024; omega) (by show n + 0 ≤ 7293034; omega) dL_law_1742 (fun v1742 Rr H locs hv2 hR hP hD hS => ?_)
  have hP := zRotP' hP
  have hD := zRotD' hD
  have ev0 : v1741 = v1730 := by rw [e1741, e1730, e1740, e1729]
  rw [ev0] at hv2
  have er : v1731.toInt = v1742.toInt := congrArg Int32.toInt (hv1.trans hv2.symm)
  refine lv_pop hx hb dL_law_1745 rfl ?_
  refine lv_goto (tgt := 1825) hx hb dL_law_1746 (by decide) ?_
  refine W.widen (k := k + 3) (n := n + 300) (by omega) (by omega) ?_
  exact J _ C Rr fo H locs ls hO hC hR hP hD hS (lv_sub hl [0, 1, 2, 3, 4] rfl)
set_option maxHeartbeats 4000000 in
set_option maxRecDepth 100000 in
theorem law_case_44 {p : Program} {l : Launch} {e : Env} {s : State} {m : MethodId} {below : List Frame} {meth : Method} {c : Code} {b L : Nat} {xs : Nat → Int32} {dC : Nat → ClassId} {dI : Nat → Nat → Nat} {cI cJ cQ : ClassId} {x0 m0 o0 : Nat} (hl0 : l.stackTraces = false) (C0 : lw_At p s m meth c b L xs) (hK3 : va_K (dC, dI) vwCl [(cI, .int), (cJ, .long), (cQ, .object "NinePortraits$Law")] s) (hV : zV (fun q : Nat => s.heap.size ≤ q) s) (hG : zG (fun q : Nat => s.heap.size ≤ q) s) (hCa : zCa s) (hL : L ≤ 3584) {sg : zSy} {C Rr : va_W} {fo : Nat → Int64} {i : Int32} {H : Heap} {locs : List Loc} {ls : Array Slot} {k n : Nat} (hO : zOkG sg) (hC : zCi cI cJ cQ x0 sg C) (hR : zRi cI m0 sg Rr) (hP : va_P (dC, dI) vwCl (C ++ ((o0, .inl (cJ, 1, .inr (.inl fo))) :: Rr)) H) (hD : va_D (fun q : Nat => s.heap.size ≤ q) (C ++ ((o0, .inl (cJ, 1, .inr (.inl fo))) :: Rr))) (hS : va_S (fun q : Nat => s.heap.size ≤ q) s.heap H locs) (hl : lv_has ls 7 [(0, .ref b), (1, .ref x0), (2, .ref m0), (3, .ref o0), (4, .int i)]) (hi0 : 0 ≤ i.toInt) (hiL : i.toInt + 7 ≤ (L : Int)) (hk : k + 3 ≤ 601024) (hn : n + 300 ≤ 7293034) (J : ∀ (sg : zSy) (C Rr : va_W) (fo : Nat → Int64) (H : Heap) (locs : List Loc) (ls : Array Slot), zOkG sg → zCi cI cJ cQ x0 sg C → zRi cI m0 sg Rr → va_P (dC, dI) vwCl (C ++ ((o0, .inl (cJ, 1, .inr (.inl fo))) :: Rr)) H → va_D (fun q : Nat => s.heap.size ≤ q) (C ++ ((o0, .inl (cJ, 1, .inr (.inl fo))) :: Rr)) → va_S (fun q : Nat => s.heap.size ≤ q) s.heap H locs → lv_has ls 7 [(0, .ref b), (1, .ref x0), (2, .ref m0), (3, .ref o0), (4, .int i)] → W p l e room_1 s m #[Value.ref b] below meth c H locs (k + 3) (n + 300) (lw_Z below #[Value.ref b] s) (F0 m 1825 ls [])) : W p l e room_1 s m #[Value.ref b] below meth c H locs k n (lw_Z below #[Value.ref b] s) (F0 m 1749 ls []) := by
  obtain ⟨hx, hb, hr, hml, hown, hts0, hX, hbl, hlocks, hgv⟩ := id C0
  have hts : ∀ w ∈ wA, w.before #[Value.ref b] s = true := fun w h => hts0 w (List.mem_filter.mp h).1
  have hown : s.vm.findClass RL = some m.cls := hown
  have hcf : CallFix p m c code 7 s #[Value.ref b] wA RL := ⟨hx, hb, hml, hown, hts⟩
  have hbA : ¬ (fun q : Nat => s.heap.size ≤ q) b := Nat.not_le.mpr hbl
  refine lv_aload_n hx hb dL_law_1749 rfl (lv_at hl 1 rfl) ?_
  refine lv_aload_n hx hb dL_law_1750 rfl (lv_at hl 0 rfl) ?_
  refine lv_iload hx hb dL_law_1751 (lv_at hl 4 rfl) ?_
  refine lv_iconst (v := 1) hx hb dL_law_1753 (by decide) ?_
  refine lv_iadd hx hb dL_law_1754 ?_
  refine lv_topi (fun v1754 e1754 => ?_)
  have i1754 : v1754.toInt = i.toInt + 1 := zadd e1754 rfl (by decide) (by omega) (by omega)
  refine va_sld hx hb hX hbl hbA hS (vp_in_iff.mpr ⟨by omega, by omega⟩) dL_law_1755 ?_
  refine lv_topi (fun v1755 e1755 => ?_)
  refine k_X10_told (rest := []) hcf hK3 hV hC hO hP hD hS (fun _ h => h) hl.1 (Nat.le_of_ble_eq_true rfl) (by show k + 0 ≤ 601024; omega) (by show n + 0 ≤ 7293034; omega) dL_law_1756 (fun v1756 C H locs hv1 hC hP hD hS => ?_)
  refine lv_pop hx hb dL_law_1759 rfl ?_
  refine lv_aload_n hx hb dL_law_1760 rfl (lv_at hl 2 rfl) ?_
  refine lv_aload_n hx hb dL_law_1761 rfl (lv_at hl 0 rfl) ?_
  refine lv_iload hx hb dL_law_1762 (lv_at hl 4 rfl) ?_
  refine lv_iconst (v := 1) hx hb dL_law_1764 (by decide) ?_
  refine lv_iadd hx hb dL_law_1765 ?_
  refine lv_topi (fun v1765 e1765 => ?_)
  have i1765 : v1765.toInt = i.toInt + 1 := zadd e1765 rfl (by decide) (by omega) (by omega)
  refine va_sld hx hb hX hbl hbA hS (vp_in_iff.mpr ⟨by omega, by omega⟩) dL_law_1766 ?_
  refine lv_topi (fun v1766 e1766 => ?_)
  have hP := zRotP hP
  have hD := zRotD hD
  refine k_X11_told (rest := []) hcf hK3 hV hR hO hP hD hS (fun _ h => h) hl.1 (Nat.le_of_ble_eq_true rfl) (by show k + 0 ≤ 601024; omega) (by show n + 0 ≤ 7293034; omega) dL_law_1767 (fun v1767 Rr H locs hv2 hR hP hD hS => ?_)
  have hP := zRotP' hP
  have hD := zRotD' hD
  have ev0 : v1766 = v1755 := by rw [e1766, e1755, e1765, e1754]
  rw [ev0] at hv2
  have er : v1756.toInt = v1767.toInt := congrArg Int32.toInt (hv1.trans hv2.symm)
  refine lv_pop hx hb dL_law_1770 rfl ?_
  refine lv_goto (tgt := 1825) hx hb dL_law_1771 (by decide) ?_
  refine W.widen (k := k + 3) (n := n + 300) (by omega) (by omega) ?_
  exact J _ C Rr fo H locs ls hO hC hR hP hD hS (lv_sub hl [0, 1, 2, 3, 4] rfl)
set_option maxHeartbeats 4000000 in
set_option maxRecDepth 100000 in
theorem law_case_45 {p : Program} {l : Launch} {e : Env} {s : State} {m : MethodId} {below : List Frame} {meth : Method} {c : Code} {b L : Nat} {xs : Nat → Int32} {dC : Nat → ClassId} {dI : Nat → Nat → Nat} {cI cJ cQ : ClassId} {x0 m0 o0 : Nat} (hl0 : l.stackTraces = false) (C0 : lw_At p s m meth c b L xs) (hK3 : va_K (dC, dI) vwCl [(cI, .int), (cJ, .long), (cQ, .object "NinePortraits$Law")] s) (hV : zV (fun q : Nat => s.heap.size ≤ q) s) (hG : zG (fun q : Nat => s.heap.size ≤ q) s) (hCa : zCa s) (hL : L ≤ 3584) {sg : zSy} {C Rr : va_W} {fo : Nat → Int64} {i : Int32} {H : Heap} {locs : List Loc} {ls : Array Slot} {k n : Nat} (hO : zOkG sg) (hC : zCi cI cJ cQ x0 sg C) (hR : zRi cI m0 sg Rr) (hP : va_P (dC, dI) vwCl (C ++ ((o0, .inl (cJ, 1, .inr (.inl fo))) :: Rr)) H) (hD : va_D (fun q : Nat => s.heap.size ≤ q) (C ++ ((o0, .inl (cJ, 1, .inr (.inl fo))) :: Rr))) (hS : va_S (fun q : Nat => s.heap.size ≤ q) s.heap H locs) (hl : lv_has ls 7 [(0, .ref b), (1, .ref x0), (2, .ref m0), (3, .ref o0), (4, .int i)]) (hi0 : 0 ≤ i.toInt) (hiL : i.toInt + 7 ≤ (L : Int)) (hk : k + 3 ≤ 601024) (hn : n + 300 ≤ 7293034) (J : ∀ (sg : zSy) (C Rr : va_W) (fo : Nat → Int64) (H : Heap) (locs : List Loc) (ls : Array Slot), zOkG sg → zCi cI cJ cQ x0 sg C → zRi cI m0 sg Rr → va_P (dC, dI) vwCl (C ++ ((o0, .inl (cJ, 1, .inr (.inl fo))) :: Rr)) H → va_D (fun q : Nat => s.heap.size ≤ q) (C ++ ((o0, .inl (cJ, 1, .inr (.inl fo))) :: Rr)) → va_S (fun q : Nat => s.heap.size ≤ q) s.heap H locs → lv_has ls 7 [(0, .ref b), (1, .ref x0), (2, .ref m0), (3, .ref o0), (4, .int i)] → W p l e room_1 s m #[Value.ref b] below meth c H locs (k + 3) (n + 300) (lw_Z below #[Value.ref b] s) (F0 m 1825 ls [])) : W p l e room_1 s m #[Value.ref b] below meth c H locs k n (lw_Z below #[Value.ref b] s) (F0 m 1774 ls []) := by
  obtain ⟨hx, hb, hr, hml, hown, hts0, hX, hbl, hlocks, hgv⟩ := id C0
  have hts : ∀ w ∈ wA, w.before #[Value.ref b] s = true := fun w h => hts0 w (List.mem_filter.mp h).1
  have hown : s.vm.findClass RL = some m.cls := hown
  have hcf : CallFix p m c code 7 s #[Value.ref b] wA RL := ⟨hx, hb, hml, hown, hts⟩
  have hbA : ¬ (fun q : Nat => s.heap.size ≤ q) b := Nat.not_le.mpr hbl
  refine lv_aload_n hx hb dL_law_1774 rfl (lv_at hl 1 rfl) ?_
  refine k_X10_image (rest := []) hcf hK3 hV hC hO hP hD hS (fun _ h => h) hl.1 (Nat.le_of_ble_eq_true rfl) (by show k + 0 ≤ 601024; omega) (by show n + 0 ≤ 7293034; omega) dL_law_1775 (fun v1775 C H locs hv1 hC hP hD hS => ?_)
  refine lv_pop hx hb dL_law_1778 rfl ?_
  refine lv_aload_n hx hb dL_law_1779 rfl (lv_at hl 2 rfl) ?_
  have hP := zRotP hP
  have hD := zRotD hD
  refine k_X11_image (rest := []) hcf hK3 hV hR hO hP hD hS (fun _ h => h) hl.1 (Nat.le_of_ble_eq_true rfl) (by show k + 0 ≤ 601024; omega) (by show n + 0 ≤ 7293034; omega) dL_law_1780 (fun v1780 Rr H locs hv2 hR hP hD hS => ?_)
  have hP := zRotP' hP
  have hD := zRotD' hD
  have er : v1775.toInt = v1780.toInt := congrArg Int32.toInt (hv1.trans hv2.symm)
  have hO : zOkG (sg.1, sg.2.1, sg.2.2.1, sg.2.2.2.1, sg.2.2.2.2.1, sg.2.2.2.2.2.1, sI_img sg.2.2.2.1.1.toInt sg.2.2.2.2.2.1 sg.2.2.2.2.2.2) := ⟨ok_img hO.1, hO.2⟩
  refine lv_pop hx hb dL_law_1783 rfl ?_
  refine lv_goto (tgt := 1825) hx hb dL_law_1784 (by decide) ?_
  refine W.widen (k := k + 3) (n := n + 300) (by omega) (by omega) ?_
  exact J _ C Rr fo H locs ls hO hC hR hP hD hS (lv_sub hl [0, 1, 2, 3, 4] rfl)
set_option maxHeartbeats 4000000 in
set_option maxRecDepth 100000 in
theorem law_case_46 {p : Program} {l : Launch} {e : Env} {s : State} {m : MethodId} {below : List Frame} {meth : Method} {c : Code} {b L : Nat} {xs : Nat → Int32} {dC : Nat → ClassId} {dI : Nat → Nat → Nat} {cI cJ cQ : ClassId} {x0 m0 o0 : Nat} (hl0 : l.stackTraces = false) (C0 : lw_At p s m meth c b L xs) (hK3 : va_K (dC, dI) vwCl [(cI, .int), (cJ, .long), (cQ, .object "NinePortraits$Law")] s) (hV : zV (fun q : Nat => s.heap.size ≤ q) s) (hG : zG (fun q : Nat => s.heap.size ≤ q) s) (hCa : zCa s) (hL : L ≤ 3584) {sg : zSy} {C Rr : va_W} {fo : Nat → Int64} {i : Int32} {H : Heap} {locs : List Loc} {ls : Array Slot} {k n : Nat} (hO : zOkG sg) (hC : zCi cI cJ cQ x0 sg C) (hR : zRi cI m0 sg Rr) (hP : va_P (dC, dI) vwCl (C ++ ((o0, .inl (cJ, 1, .inr (.inl fo))) :: Rr)) H) (hD : va_D (fun q : Nat => s.heap.size ≤ q) (C ++ ((o0, .inl (cJ, 1, .inr (.inl fo))) :: Rr))) (hS : va_S (fun q : Nat => s.heap.size ≤ q) s.heap H locs) (hl : lv_has ls 7 [(0, .ref b), (1, .ref x0), (2, .ref m0), (3, .ref o0), (4, .int i)]) (hi0 : 0 ≤ i.toInt) (hiL : i.toInt + 7 ≤ (L : Int)) (hk : k + 3 ≤ 601024) (hn : n + 300 ≤ 7293034) (J : ∀ (sg : zSy) (C Rr : va_W) (fo : Nat → Int64) (H : Heap) (locs : List Loc) (ls : Array Slot), zOkG sg → zCi cI cJ cQ x0 sg C → zRi cI m0 sg Rr → va_P (dC, dI) vwCl (C ++ ((o0, .inl (cJ, 1, .inr (.inl fo))) :: Rr)) H → va_D (fun q : Nat => s.heap.size ≤ q) (C ++ ((o0, .inl (cJ, 1, .inr (.inl fo))) :: Rr)) → va_S (fun q : Nat => s.heap.size ≤ q) s.heap H locs → lv_has ls 7 [(0, .ref b), (1, .ref x0), (2, .ref m0), (3, .ref o0), (4, .int i)] → W p l e room_1 s m #[Value.ref b] below meth c H locs (k + 3) (n + 300) (lw_Z below #[Value.ref b] s) (F0 m 1825 ls [])) : W p l e room_1 s m #[Value.ref b] below meth c H locs k n (lw_Z below #[Value.ref b] s) (F0 m 1787 ls []) := by
  obtain ⟨hx, hb, hr, hml, hown, hts0, hX, hbl, hlocks, hgv⟩ := id C0
  have hts : ∀ w ∈ wA, w.before #[Value.ref b] s = true := fun w h => hts0 w (List.mem_filter.mp h).1
  have hown : s.vm.findClass RL = some m.cls := hown
  have hcf : CallFix p m c code 7 s #[Value.ref b] wA RL := ⟨hx, hb, hml, hown, hts⟩
  have hbA : ¬ (fun q : Nat => s.heap.size ≤ q) b := Nat.not_le.mpr hbl
  refine lv_aload_n hx hb dL_law_1787 rfl (lv_at hl 1 rfl) ?_
  refine k_X10_back (rest := []) hcf hK3 hV hC hO hP hD hS (fun _ h => h) hl.1 (Nat.le_of_ble_eq_true rfl) (by show k + 0 ≤ 601024; omega) (by show n + 0 ≤ 7293034; omega) dL_law_1788 (fun v1788 C H locs hv1 hC hP hD hS => ?_)
  refine lv_pop hx hb dL_law_1791 rfl ?_
  refine lv_aload_n hx hb dL_law_1792 rfl (lv_at hl 2 rfl) ?_
  have hP := zRotP hP
  have hD := zRotD hD
  refine k_X11_back (rest := []) hcf hK3 hV hR hO hP hD hS (fun _ h => h) hl.1 (Nat.le_of_ble_eq_true rfl) (by show k + 0 ≤ 601024; omega) (by show n + 0 ≤ 7293034; omega) dL_law_1793 (fun v1793 Rr H locs hv2 hR hP hD hS => ?_)
  have hP := zRotP' hP
  have hD := zRotD' hD
  have er : v1788.toInt = v1793.toInt := congrArg Int32.toInt (hv1.trans hv2.symm)
  have hO : zOkG (sg.1, sg.2.1, sg.2.2.1, sg.2.2.2.1, sg.2.2.2.2.1, sT_bck sg.2.2.2.2.2.2 sg.2.2.2.2.2.1, sg.2.2.2.2.2.2) := ⟨ok_bck hO.1, hO.2⟩
  refine lv_pop hx hb dL_law_1796 rfl ?_
  refine lv_goto (tgt := 1825) hx hb dL_law_1797 (by decide) ?_
  refine W.widen (k := k + 3) (n := n + 300) (by omega) (by omega) ?_
  exact J _ C Rr fo H locs ls hO hC hR hP hD hS (lv_sub hl [0, 1, 2, 3, 4] rfl)
set_option maxHeartbeats 4000000 in
set_option maxRecDepth 100000 in
theorem law_case_47 {p : Program} {l : Launch} {e : Env} {s : State} {m : MethodId} {below : List Frame} {meth : Method} {c : Code} {b L : Nat} {xs : Nat → Int32} {dC : Nat → ClassId} {dI : Nat → Nat → Nat} {cI cJ cQ : ClassId} {x0 m0 o0 : Nat} (hl0 : l.stackTraces = false) (C0 : lw_At p s m meth c b L xs) (hK3 : va_K (dC, dI) vwCl [(cI, .int), (cJ, .long), (cQ, .object "NinePortraits$Law")] s) (hV : zV (fun q : Nat => s.heap.size ≤ q) s) (hG : zG (fun q : Nat => s.heap.size ≤ q) s) (hCa : zCa s) (hL : L ≤ 3584) {sg : zSy} {C Rr : va_W} {fo : Nat → Int64} {i : Int32} {H : Heap} {locs : List Loc} {ls : Array Slot} {k n : Nat} (hO : zOkG sg) (hC : zCi cI cJ cQ x0 sg C) (hR : zRi cI m0 sg Rr) (hP : va_P (dC, dI) vwCl (C ++ ((o0, .inl (cJ, 1, .inr (.inl fo))) :: Rr)) H) (hD : va_D (fun q : Nat => s.heap.size ≤ q) (C ++ ((o0, .inl (cJ, 1, .inr (.inl fo))) :: Rr))) (hS : va_S (fun q : Nat => s.heap.size ≤ q) s.heap H locs) (hl : lv_has ls 7 [(0, .ref b), (1, .ref x0), (2, .ref m0), (3, .ref o0), (4, .int i)]) (hi0 : 0 ≤ i.toInt) (hiL : i.toInt + 7 ≤ (L : Int)) (hk : k + 3 ≤ 601024) (hn : n + 300 ≤ 7293034) (J : ∀ (sg : zSy) (C Rr : va_W) (fo : Nat → Int64) (H : Heap) (locs : List Loc) (ls : Array Slot), zOkG sg → zCi cI cJ cQ x0 sg C → zRi cI m0 sg Rr → va_P (dC, dI) vwCl (C ++ ((o0, .inl (cJ, 1, .inr (.inl fo))) :: Rr)) H → va_D (fun q : Nat => s.heap.size ≤ q) (C ++ ((o0, .inl (cJ, 1, .inr (.inl fo))) :: Rr)) → va_S (fun q : Nat => s.heap.size ≤ q) s.heap H locs → lv_has ls 7 [(0, .ref b), (1, .ref x0), (2, .ref m0), (3, .ref o0), (4, .int i)] → W p l e room_1 s m #[Value.ref b] below meth c H locs (k + 3) (n + 300) (lw_Z below #[Value.ref b] s) (F0 m 1825 ls [])) : W p l e room_1 s m #[Value.ref b] below meth c H locs k n (lw_Z below #[Value.ref b] s) (F0 m 1800 ls []) := by
  obtain ⟨hx, hb, hr, hml, hown, hts0, hX, hbl, hlocks, hgv⟩ := id C0
  have hts : ∀ w ∈ wA, w.before #[Value.ref b] s = true := fun w h => hts0 w (List.mem_filter.mp h).1
  have hown : s.vm.findClass RL = some m.cls := hown
  have hcf : CallFix p m c code 7 s #[Value.ref b] wA RL := ⟨hx, hb, hml, hown, hts⟩
  have hbA : ¬ (fun q : Nat => s.heap.size ≤ q) b := Nat.not_le.mpr hbl
  refine lv_aload_n hx hb dL_law_1800 rfl (lv_at hl 1 rfl) ?_
  refine lv_aload_n hx hb dL_law_1801 rfl (lv_at hl 0 rfl) ?_
  refine lv_iload hx hb dL_law_1802 (lv_at hl 4 rfl) ?_
  refine lv_iconst (v := 1) hx hb dL_law_1804 (by decide) ?_
  refine lv_iadd hx hb dL_law_1805 ?_
  refine lv_topi (fun v1805 e1805 => ?_)
  have i1805 : v1805.toInt = i.toInt + 1 := zadd e1805 rfl (by decide) (by omega) (by omega)
  refine va_sld hx hb hX hbl hbA hS (vp_in_iff.mpr ⟨by omega, by omega⟩) dL_law_1806 ?_
  refine lv_topi (fun v1806 e1806 => ?_)
  refine k_X10_count (rest := []) hcf hK3 hV hC hO hP hD hS (fun _ h => h) hl.1 (Nat.le_of_ble_eq_true rfl) (by show k + 0 ≤ 601024; omega) (by show n + 0 ≤ 7293034; omega) dL_law_1807 (fun v1807 C H locs hv1 hC hP hD hS => ?_)
  refine lv_pop hx hb dL_law_1810 rfl ?_
  refine lv_aload_n hx hb dL_law_1811 rfl (lv_at hl 2 rfl) ?_
  refine lv_aload_n hx hb dL_law_1812 rfl (lv_at hl 0 rfl) ?_
  refine lv_iload hx hb dL_law_1813 (lv_at hl 4 rfl) ?_
  refine lv_iconst (v := 1) hx hb dL_law_1815 (by decide) ?_
  refine lv_iadd hx hb dL_law_1816 ?_
  refine lv_topi (fun v1816 e1816 => ?_)
  have i1816 : v1816.toInt = i.toInt + 1 := zadd e1816 rfl (by decide) (by omega) (by omega)
  refine va_sld hx hb hX hbl hbA hS (vp_in_iff.mpr ⟨by omega, by omega⟩) dL_law_1817 ?_
  refine lv_topi (fun v1817 e1817 => ?_)
  have hP := zRotP hP
  have hD := zRotD hD
  refine k_X11_count (rest := []) hcf hK3 hV hR hO hP hD hS (fun _ h => h) hl.1 (Nat.le_of_ble_eq_true rfl) (by show k + 0 ≤ 601024; omega) (by show n + 0 ≤ 7293034; omega) dL_law_1818 (fun v1818 Rr H locs hv2 hR hP hD hS => ?_)
  have hP := zRotP' hP
  have hD := zRotD' hD
  have ev0 : v1817 = v1806 := by rw [e1817, e1806, e1816, e1805]
  rw [ev0] at hv2
  have er : v1807.toInt = v1818.toInt := hv1.trans hv2.symm
  refine lv_pop hx hb dL_law_1821 rfl ?_
  refine lv_goto (tgt := 1825) hx hb dL_law_1822 (by decide) ?_
  refine W.widen (k := k + 3) (n := n + 300) (by omega) (by omega) ?_
  exact J _ C Rr fo H locs ls hO hC hR hP hD hS (lv_sub hl [0, 1, 2, 3, 4] rfl)
