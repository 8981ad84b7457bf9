set_option maxHeartbeats 4000000 in
set_option maxRecDepth 100000 in
theorem law_case_24 {p : Program} {l : Launch} {e : Env} {s : State} {m : MethodId} {below : List Frame} {meth : Method} {c : Code} {b L : Nat} {xs : Nat → Int32} {dC : Nat → ClassId} {dI : Nat → Nat → Nat} {cI cJ cQ : ClassId} {x0 m0 o0 : Nat} (hl0 : l.stackTraces = false) (C0 : lw_At p s m meth c b L xs) (hK3 : va_K (dC, dI) vwCl [(cI, .int), (cJ, .long), (cQ, .object "NinePortraits$Law")] s) (hV : zV (fun q : Nat => s.heap.size ≤ q) s) (hG : zG (fun q : Nat => s.heap.size ≤ q) s) (hCa : zCa s) (hL : L ≤ 3584) {sg : zSy} {C Rr : va_W} {fo : Nat → Int64} {i : Int32} {H : Heap} {locs : List Loc} {ls : Array Slot} {k n : Nat} (hO : zOkG sg) (hC : zCi cI cJ cQ x0 sg C) (hR : zRi cI m0 sg Rr) (hP : va_P (dC, dI) vwCl (C ++ ((o0, .inl (cJ, 1, .inr (.inl fo))) :: Rr)) H) (hD : va_D (fun q : Nat => s.heap.size ≤ q) (C ++ ((o0, .inl (cJ, 1, .inr (.inl fo))) :: Rr))) (hS : va_S (fun q : Nat => s.heap.size ≤ q) s.heap H locs) (hl : lv_has ls 7 [(0, .ref b), (1, .ref x0), (2, .ref m0), (3, .ref o0), (4, .int i)]) (hi0 : 0 ≤ i.toInt) (hiL : i.toInt + 7 ≤ (L : Int)) (hk : k + 3 ≤ 601024) (hn : n + 300 ≤ 7293034) (J : ∀ (sg : zSy) (C Rr : va_W) (fo : Nat → Int64) (H : Heap) (locs : List Loc) (ls : Array Slot), zOkG sg → zCi cI cJ cQ x0 sg C → zRi cI m0 sg Rr → va_P (dC, dI) vwCl (C ++ ((o0, .inl (cJ, 1, .inr (.inl fo))) :: Rr)) H → va_D (fun q : Nat => s.heap.size ≤ q) (C ++ ((o0, .inl (cJ, 1, .inr (.inl fo))) :: Rr)) → va_S (fun q : Nat => s.heap.size ≤ q) s.heap H locs → lv_has ls 7 [(0, .ref b), (1, .ref x0), (2, .ref m0), (3, .ref o0), (4, .int i)] → W p l e room_1 s m #[Value.ref b] below meth c H locs (k + 3) (n + 300) (lw_Z below #[Value.ref b] s) (F0 m 1797 ls [])) : W p l e room_1 s m #[Value.ref b] below meth c H locs k n (lw_Z below #[Value.ref b] s) (F0 m 1015 ls []) := by
  obtain ⟨hx, hb, hr, hml, hown, hts0, hX, hbl, hlocks, hgv⟩ := id C0
  have hts : ∀ w ∈ wA, w.before #[Value.ref b] s = true := fun w h => hts0 w (List.mem_filter.mp h).1
  have hown : s.vm.findClass RL = some m.cls := hown
  have hcf : CallFix p m c code 7 s #[Value.ref b] wA RL := ⟨hx, hb, hml, hown, hts⟩
  have hbA : ¬ (fun q : Nat => s.heap.size ≤ q) b := Nat.not_le.mpr hbl
  refine lv_aload_n hx hb dL_law_1015 rfl (lv_at hl 1 rfl) ?_
  refine lv_aload_n hx hb dL_law_1016 rfl (lv_at hl 0 rfl) ?_
  refine lv_iload hx hb dL_law_1017 (lv_at hl 4 rfl) ?_
  refine lv_iconst (v := 1) hx hb dL_law_1019 (by decide) ?_
  refine lv_iadd hx hb dL_law_1020 ?_
  refine lv_topi (fun v1020 e1020 => ?_)
  have i1020 : v1020.toInt = i.toInt + 1 := zadd e1020 rfl (by decide) (by omega) (by omega)
  refine va_sld hx hb hX hbl hbA hS (vp_in_iff.mpr ⟨by omega, by omega⟩) dL_law_1021 ?_
  refine lv_topi (fun v1021 e1021 => ?_)
  refine lv_aload_n hx hb dL_law_1022 rfl (lv_at hl 0 rfl) ?_
  refine lv_iload hx hb dL_law_1023 (lv_at hl 4 rfl) ?_
  refine lv_iconst (v := 2) hx hb dL_law_1025 (by decide) ?_
  refine lv_iadd hx hb dL_law_1026 ?_
  refine lv_topi (fun v1026 e1026 => ?_)
  have i1026 : v1026.toInt = i.toInt + 2 := zadd e1026 rfl (by decide) (by omega) (by omega)
  refine va_sld hx hb hX hbl hbA hS (vp_in_iff.mpr ⟨by omega, by omega⟩) dL_law_1027 ?_
  refine lv_topi (fun v1027 e1027 => ?_)
  refine k_X10_belief (rest := []) hcf hK3 hV hC hO hP hD hS (fun _ h => h) hl.1 (Nat.le_of_ble_eq_true rfl) (by show k + 0 ≤ 601024; omega) (by show n + 0 ≤ 7293034; omega) dL_law_1028 (fun v1028 C H locs hv1 hC hP hD hS => ?_)
  refine lv_aload_n hx hb dL_law_1031 rfl (lv_at hl 2 rfl) ?_
  refine lv_aload_n hx hb dL_law_1032 rfl (lv_at hl 0 rfl) ?_
  refine lv_iload hx hb dL_law_1033 (lv_at hl 4 rfl) ?_
  refine lv_iconst (v := 1) hx hb dL_law_1035 (by decide) ?_
  refine lv_iadd hx hb dL_law_1036 ?_
  refine lv_topi (fun v1036 e1036 => ?_)
  have i1036 : v1036.toInt = i.toInt + 1 := zadd e1036 rfl (by decide) (by omega) (by omega)
  refine va_sld hx hb hX hbl hbA hS (vp_in_iff.mpr ⟨by omega, by omega⟩) dL_law_1037 ?_
  refine lv_topi (fun v1037 e1037 => ?_)
  refine lv_aload_n hx hb dL_law_1038 rfl (lv_at hl 0 rfl) ?_
  refine lv_iload hx hb dL_law_1039 (lv_at hl 4 rfl) ?_
  refine lv_iconst (v := 2) hx hb dL_law_1041 (by decide) ?_
  refine lv_iadd hx hb dL_law_1042 ?_
  refine lv_topi (fun v1042 e1042 => ?_)
  have i1042 : v1042.toInt = i.toInt + 2 := zadd e1042 rfl (by decide) (by omega) (by omega)
  refine va_sld hx hb hX hbl hbA hS (vp_in_iff.mpr ⟨by omega, by omega⟩) dL_law_1043 ?_
  refine lv_topi (fun v1043 e1043 => ?_)
  have hP := zRotP hP
  have hD := zRotD hD
  refine k_X11_belief (rest := [.int v1028]) hcf hK3 hV hR hO hP hD hS (fun _ h => h) hl.1 (Nat.le_of_ble_eq_true rfl) (by show k + 0 ≤ 601024; omega) (by show n + 0 ≤ 7293034; omega) dL_law_1044 (fun v1044 Rr H locs hv2 hR hP hD hS => ?_)
  have hP := zRotP' hP
  have hD := zRotD' hD
  have ev0 : v1037 = v1021 := by rw [e1037, e1021, e1036, e1020]
  rw [ev0] at hv2
  have ev1 : v1043 = v1027 := by rw [e1043, e1027, e1042, e1026]
  rw [ev1] at hv2
  have er : v1028.toInt = v1044.toInt := congrArg Int32.toInt (hv1.trans hv2.symm)
  have hr1 : v1028 = v1044 := Int32.toInt_inj.mp er
  refine lv_icmp_eq (tgt := 1797) hx hb dL_law_1047 (by decide) (fun _ => ?_) (fun q => absurd hr1 q)
  refine W.widen (k := k + 3) (n := n + 300) (by omega) (by omega) ?_
  exact J _ C Rr fo H locs ls hO hC hR hP hD hS (lv_sub hl [0, 1, 2, 3, 4] rfl)
set_option maxHeartbeats 4000000 in
set_option maxRecDepth 100000 in
theorem law_case_25 {p : Program} {l : Launch} {e : Env} {s : State} {m : MethodId} {below : List Frame} {meth : Method} {c : Code} {b L : Nat} {xs : Nat → Int32} {dC : Nat → ClassId} {dI : Nat → Nat → Nat} {cI cJ cQ : ClassId} {x0 m0 o0 : Nat} (hl0 : l.stackTraces = false) (C0 : lw_At p s m meth c b L xs) (hK3 : va_K (dC, dI) vwCl [(cI, .int), (cJ, .long), (cQ, .object "NinePortraits$Law")] s) (hV : zV (fun q : Nat => s.heap.size ≤ q) s) (hG : zG (fun q : Nat => s.heap.size ≤ q) s) (hCa : zCa s) (hL : L ≤ 3584) {sg : zSy} {C Rr : va_W} {fo : Nat → Int64} {i : Int32} {H : Heap} {locs : List Loc} {ls : Array Slot} {k n : Nat} (hO : zOkG sg) (hC : zCi cI cJ cQ x0 sg C) (hR : zRi cI m0 sg Rr) (hP : va_P (dC, dI) vwCl (C ++ ((o0, .inl (cJ, 1, .inr (.inl fo))) :: Rr)) H) (hD : va_D (fun q : Nat => s.heap.size ≤ q) (C ++ ((o0, .inl (cJ, 1, .inr (.inl fo))) :: Rr))) (hS : va_S (fun q : Nat => s.heap.size ≤ q) s.heap H locs) (hl : lv_has ls 7 [(0, .ref b), (1, .ref x0), (2, .ref m0), (3, .ref o0), (4, .int i)]) (hi0 : 0 ≤ i.toInt) (hiL : i.toInt + 7 ≤ (L : Int)) (hk : k + 3 ≤ 601024) (hn : n + 300 ≤ 7293034) (J : ∀ (sg : zSy) (C Rr : va_W) (fo : Nat → Int64) (H : Heap) (locs : List Loc) (ls : Array Slot), zOkG sg → zCi cI cJ cQ x0 sg C → zRi cI m0 sg Rr → va_P (dC, dI) vwCl (C ++ ((o0, .inl (cJ, 1, .inr (.inl fo))) :: Rr)) H → va_D (fun q : Nat => s.heap.size ≤ q) (C ++ ((o0, .inl (cJ, 1, .inr (.inl fo))) :: Rr)) → va_S (fun q : Nat => s.heap.size ≤ q) s.heap H locs → lv_has ls 7 [(0, .ref b), (1, .ref x0), (2, .ref m0), (3, .ref o0), (4, .int i)] → W p l e room_1 s m #[Value.ref b] below meth c H locs (k + 3) (n + 300) (lw_Z below #[Value.ref b] s) (F0 m 1797 ls [])) : W p l e room_1 s m #[Value.ref b] below meth c H locs k n (lw_Z below #[Value.ref b] s) (F0 m 1052 ls []) := by
  obtain ⟨hx, hb, hr, hml, hown, hts0, hX, hbl, hlocks, hgv⟩ := id C0
  have hts : ∀ w ∈ wA, w.before #[Value.ref b] s = true := fun w h => hts0 w (List.mem_filter.mp h).1
  have hown : s.vm.findClass RL = some m.cls := hown
  have hcf : CallFix p m c code 7 s #[Value.ref b] wA RL := ⟨hx, hb, hml, hown, hts⟩
  have hbA : ¬ (fun q : Nat => s.heap.size ≤ q) b := Nat.not_le.mpr hbl
  refine lv_aload_n hx hb dL_law_1052 rfl (lv_at hl 1 rfl) ?_
  refine lv_aload_n hx hb dL_law_1053 rfl (lv_at hl 0 rfl) ?_
  refine lv_iload hx hb dL_law_1054 (lv_at hl 4 rfl) ?_
  refine lv_iconst (v := 1) hx hb dL_law_1056 (by decide) ?_
  refine lv_iadd hx hb dL_law_1057 ?_
  refine lv_topi (fun v1057 e1057 => ?_)
  have i1057 : v1057.toInt = i.toInt + 1 := zadd e1057 rfl (by decide) (by omega) (by omega)
  refine va_sld hx hb hX hbl hbA hS (vp_in_iff.mpr ⟨by omega, by omega⟩) dL_law_1058 ?_
  refine lv_topi (fun v1058 e1058 => ?_)
  refine lv_aload_n hx hb dL_law_1059 rfl (lv_at hl 0 rfl) ?_
  refine lv_iload hx hb dL_law_1060 (lv_at hl 4 rfl) ?_
  refine lv_iconst (v := 2) hx hb dL_law_1062 (by decide) ?_
  refine lv_iadd hx hb dL_law_1063 ?_
  refine lv_topi (fun v1063 e1063 => ?_)
  have i1063 : v1063.toInt = i.toInt + 2 := zadd e1063 rfl (by decide) (by omega) (by omega)
  refine va_sld hx hb hX hbl hbA hS (vp_in_iff.mpr ⟨by omega, by omega⟩) dL_law_1064 ?_
  refine lv_topi (fun v1064 e1064 => ?_)
  refine k_X10_likely (rest := []) hcf hK3 hV hC hO hP hD hS (fun _ h => h) hl.1 (Nat.le_of_ble_eq_true rfl) (by show k + 0 ≤ 601024; omega) (by show n + 0 ≤ 7293034; omega) dL_law_1065 (fun v1065 C H locs hv1 hC hP hD hS => ?_)
  refine lv_pop hx hb dL_law_1068 rfl ?_
  refine lv_aload_n hx hb dL_law_1069 rfl (lv_at hl 2 rfl) ?_
  refine lv_aload_n hx hb dL_law_1070 rfl (lv_at hl 0 rfl) ?_
  refine lv_iload hx hb dL_law_1071 (lv_at hl 4 rfl) ?_
  refine lv_iconst (v := 1) hx hb dL_law_1073 (by decide) ?_
  refine lv_iadd hx hb dL_law_1074 ?_
  refine lv_topi (fun v1074 e1074 => ?_)
  have i1074 : v1074.toInt = i.toInt + 1 := zadd e1074 rfl (by decide) (by omega) (by omega)
  refine va_sld hx hb hX hbl hbA hS (vp_in_iff.mpr ⟨by omega, by omega⟩) dL_law_1075 ?_
  refine lv_topi (fun v1075 e1075 => ?_)
  refine lv_aload_n hx hb dL_law_1076 rfl (lv_at hl 0 rfl) ?_
  refine lv_iload hx hb dL_law_1077 (lv_at hl 4 rfl) ?_
  refine lv_iconst (v := 2) hx hb dL_law_1079 (by decide) ?_
  refine lv_iadd hx hb dL_law_1080 ?_
  refine lv_topi (fun v1080 e1080 => ?_)
  have i1080 : v1080.toInt = i.toInt + 2 := zadd e1080 rfl (by decide) (by omega) (by omega)
  refine va_sld hx hb hX hbl hbA hS (vp_in_iff.mpr ⟨by omega, by omega⟩) dL_law_1081 ?_
  refine lv_topi (fun v1081 e1081 => ?_)
  have hP := zRotP hP
  have hD := zRotD hD
  refine k_X11_likely (rest := []) hcf hK3 hV hR hO hP hD hS (fun _ h => h) hl.1 (Nat.le_of_ble_eq_true rfl) (by show k + 0 ≤ 601024; omega) (by show n + 0 ≤ 7293034; omega) dL_law_1082 (fun v1082 Rr H locs hv2 hR hP hD hS => ?_)
  have hP := zRotP' hP
  have hD := zRotD' hD
  have ev0 : v1075 = v1058 := by rw [e1075, e1058, e1074, e1057]
  rw [ev0] at hv2
  have ev1 : v1081 = v1064 := by rw [e1081, e1064, e1080, e1063]
  rw [ev1] at hv2
  have er : v1065.toInt = v1082.toInt := congrArg Int32.toInt (hv1.trans hv2.symm)
  refine lv_pop hx hb dL_law_1085 rfl ?_
  refine lv_goto (tgt := 1797) hx hb dL_law_1086 (by decide) ?_
  refine W.widen (k := k + 3) (n := n + 300) (by omega) (by omega) ?_
  exact J _ C Rr fo H locs ls hO hC hR hP hD hS (lv_sub hl [0, 1, 2, 3, 4] rfl)
set_option maxHeartbeats 4000000 in
set_option maxRecDepth 100000 in
theorem law_case_26 {p : Program} {l : Launch} {e : Env} {s : State} {m : MethodId} {below : List Frame} {meth : Method} {c : Code} {b L : Nat} {xs : Nat → Int32} {dC : Nat → ClassId} {dI : Nat → Nat → Nat} {cI cJ cQ : ClassId} {x0 m0 o0 : Nat} (hl0 : l.stackTraces = false) (C0 : lw_At p s m meth c b L xs) (hK3 : va_K (dC, dI) vwCl [(cI, .int), (cJ, .long), (cQ, .object "NinePortraits$Law")] s) (hV : zV (fun q : Nat => s.heap.size ≤ q) s) (hG : zG (fun q : Nat => s.heap.size ≤ q) s) (hCa : zCa s) (hL : L ≤ 3584) {sg : zSy} {C Rr : va_W} {fo : Nat → Int64} {i : Int32} {H : Heap} {locs : List Loc} {ls : Array Slot} {k n : Nat} (hO : zOkG sg) (hC : zCi cI cJ cQ x0 sg C) (hR : zRi cI m0 sg Rr) (hP : va_P (dC, dI) vwCl (C ++ ((o0, .inl (cJ, 1, .inr (.inl fo))) :: Rr)) H) (hD : va_D (fun q : Nat => s.heap.size ≤ q) (C ++ ((o0, .inl (cJ, 1, .inr (.inl fo))) :: Rr))) (hS : va_S (fun q : Nat => s.heap.size ≤ q) s.heap H locs) (hl : lv_has ls 7 [(0, .ref b), (1, .ref x0), (2, .ref m0), (3, .ref o0), (4, .int i)]) (hi0 : 0 ≤ i.toInt) (hiL : i.toInt + 7 ≤ (L : Int)) (hk : k + 3 ≤ 601024) (hn : n + 300 ≤ 7293034) (J : ∀ (sg : zSy) (C Rr : va_W) (fo : Nat → Int64) (H : Heap) (locs : List Loc) (ls : Array Slot), zOkG sg → zCi cI cJ cQ x0 sg C → zRi cI m0 sg Rr → va_P (dC, dI) vwCl (C ++ ((o0, .inl (cJ, 1, .inr (.inl fo))) :: Rr)) H → va_D (fun q : Nat => s.heap.size ≤ q) (C ++ ((o0, .inl (cJ, 1, .inr (.inl fo))) :: Rr)) → va_S (fun q : Nat => s.heap.size ≤ q) s.heap H locs → lv_has ls 7 [(0, .ref b), (1, .ref x0), (2, .ref m0), (3, .ref o0), (4, .int i)] → W p l e room_1 s m #[Value.ref b] below meth c H locs (k + 3) (n + 300) (lw_Z below #[Value.ref b] s) (F0 m 1797 ls [])) : W p l e room_1 s m #[Value.ref b] below meth c H locs k n (lw_Z below #[Value.ref b] s) (F0 m 1089 ls []) := by
  obtain ⟨hx, hb, hr, hml, hown, hts0, hX, hbl, hlocks, hgv⟩ := id C0
  have hts : ∀ w ∈ wA, w.before #[Value.ref b] s = true := fun w h => hts0 w (List.mem_filter.mp h).1
  have hown : s.vm.findClass RL = some m.cls := hown
  have hcf : CallFix p m c code 7 s #[Value.ref b] wA RL := ⟨hx, hb, hml, hown, hts⟩
  have hbA : ¬ (fun q : Nat => s.heap.size ≤ q) b := Nat.not_le.mpr hbl
  refine lv_aload_n hx hb dL_law_1089 rfl (lv_at hl 1 rfl) ?_
  refine lv_aload_n hx hb dL_law_1090 rfl (lv_at hl 0 rfl) ?_
  refine lv_iload hx hb dL_law_1091 (lv_at hl 4 rfl) ?_
  refine lv_iconst (v := 1) hx hb dL_law_1093 (by decide) ?_
  refine lv_iadd hx hb dL_law_1094 ?_
  refine lv_topi (fun v1094 e1094 => ?_)
  have i1094 : v1094.toInt = i.toInt + 1 := zadd e1094 rfl (by decide) (by omega) (by omega)
  refine va_sld hx hb hX hbl hbA hS (vp_in_iff.mpr ⟨by omega, by omega⟩) dL_law_1095 ?_
  refine lv_topi (fun v1095 e1095 => ?_)
  refine lv_aload_n hx hb dL_law_1096 rfl (lv_at hl 0 rfl) ?_
  refine lv_iload hx hb dL_law_1097 (lv_at hl 4 rfl) ?_
  refine lv_iconst (v := 2) hx hb dL_law_1099 (by decide) ?_
  refine lv_iadd hx hb dL_law_1100 ?_
  refine lv_topi (fun v1100 e1100 => ?_)
  have i1100 : v1100.toInt = i.toInt + 2 := zadd e1100 rfl (by decide) (by omega) (by omega)
  refine va_sld hx hb hX hbl hbA hS (vp_in_iff.mpr ⟨by omega, by omega⟩) dL_law_1101 ?_
  refine lv_topi (fun v1101 e1101 => ?_)
  refine k_X10_sure (rest := []) hcf hK3 hV hC hO hP hD hS (fun _ h => h) hl.1 (Nat.le_of_ble_eq_true rfl) (by show k + 0 ≤ 601024; omega) (by show n + 0 ≤ 7293034; omega) dL_law_1102 (fun v1102 C H locs hv1 hC hP hD hS => ?_)
  refine lv_pop hx hb dL_law_1105 rfl ?_
  refine lv_aload_n hx hb dL_law_1106 rfl (lv_at hl 2 rfl) ?_
  refine lv_aload_n hx hb dL_law_1107 rfl (lv_at hl 0 rfl) ?_
  refine lv_iload hx hb dL_law_1108 (lv_at hl 4 rfl) ?_
  refine lv_iconst (v := 1) hx hb dL_law_1110 (by decide) ?_
  refine lv_iadd hx hb dL_law_1111 ?_
  refine lv_topi (fun v1111 e1111 => ?_)
  have i1111 : v1111.toInt = i.toInt + 1 := zadd e1111 rfl (by decide) (by omega) (by omega)
  refine va_sld hx hb hX hbl hbA hS (vp_in_iff.mpr ⟨by omega, by omega⟩) dL_law_1112 ?_
  refine lv_topi (fun v1112 e1112 => ?_)
  refine lv_aload_n hx hb dL_law_1113 rfl (lv_at hl 0 rfl) ?_
  refine lv_iload hx hb dL_law_1114 (lv_at hl 4 rfl) ?_
  refine lv_iconst (v := 2) hx hb dL_law_1116 (by decide) ?_
  refine lv_iadd hx hb dL_law_1117 ?_
  refine lv_topi (fun v1117 e1117 => ?_)
  have i1117 : v1117.toInt = i.toInt + 2 := zadd e1117 rfl (by decide) (by omega) (by omega)
  refine va_sld hx hb hX hbl hbA hS (vp_in_iff.mpr ⟨by omega, by omega⟩) dL_law_1118 ?_
  refine lv_topi (fun v1118 e1118 => ?_)
  have hP := zRotP hP
  have hD := zRotD hD
  refine k_X11_sure (rest := []) hcf hK3 hV hR hO hP hD hS (fun _ h => h) hl.1 (Nat.le_of_ble_eq_true rfl) (by show k + 0 ≤ 601024; omega) (by show n + 0 ≤ 7293034; omega) dL_law_1119 (fun v1119 Rr H locs hv2 hR hP hD hS => ?_)
  have hP := zRotP' hP
  have hD := zRotD' hD
  have ev0 : v1112 = v1095 := by rw [e1112, e1095, e1111, e1094]
  rw [ev0] at hv2
  have ev1 : v1118 = v1101 := by rw [e1118, e1101, e1117, e1100]
  rw [ev1] at hv2
  have er : v1102.toInt = v1119.toInt := congrArg Int32.toInt (hv1.trans hv2.symm)
  refine lv_pop hx hb dL_law_1122 rfl ?_
  refine lv_goto (tgt := 1797) hx hb dL_law_1123 (by decide) ?_
  refine W.widen (k := k + 3) (n := n + 300) (by omega) (by omega) ?_
  exact J _ C Rr fo H locs ls hO hC hR hP hD hS (lv_sub hl [0, 1, 2, 3, 4] rfl)
set_option maxHeartbeats 4000000 in
set_option maxRecDepth 100000 in
theorem law_case_27 {p : Program} {l : Launch} {e : Env} {s : State} {m : MethodId} {below : List Frame} {meth : Method} {c : Code} {b L : Nat} {xs : Nat → Int32} {dC : Nat → ClassId} {dI : Nat → Nat → Nat} {cI cJ cQ : ClassId} {x0 m0 o0 : Nat} (hl0 : l.stackTraces = false) (C0 : lw_At p s m meth c b L xs) (hK3 : va_K (dC, dI) vwCl [(cI, .int), (cJ, .long), (cQ, .object "NinePortraits$Law")] s) (hV : zV (fun q : Nat => s.heap.size ≤ q) s) (hG : zG (fun q : Nat => s.heap.size ≤ q) s) (hCa : zCa s) (hL : L ≤ 3584) {sg : zSy} {C Rr : va_W} {fo : Nat → Int64} {i : Int32} {H : Heap} {locs : List Loc} {ls : Array Slot} {k n : Nat} (hO : zOkG sg) (hC : zCi cI cJ cQ x0 sg C) (hR : zRi cI m0 sg Rr) (hP : va_P (dC, dI) vwCl (C ++ ((o0, .inl (cJ, 1, .inr (.inl fo))) :: Rr)) H) (hD : va_D (fun q : Nat => s.heap.size ≤ q) (C ++ ((o0, .inl (cJ, 1, .inr (.inl fo))) :: Rr))) (hS : va_S (fun q : Nat => s.heap.size ≤ q) s.heap H locs) (hl : lv_has ls 7 [(0, .ref b), (1, .ref x0), (2, .ref m0), (3, .ref o0), (4, .int i)]) (hi0 : 0 ≤ i.toInt) (hiL : i.toInt + 7 ≤ (L : Int)) (hk : k + 3 ≤ 601024) (hn : n + 300 ≤ 7293034) (J : ∀ (sg : zSy) (C Rr : va_W) (fo : Nat → Int64) (H : Heap) (locs : List Loc) (ls : Array Slot), zOkG sg → zCi cI cJ cQ x0 sg C → zRi cI m0 sg Rr → va_P (dC, dI) vwCl (C ++ ((o0, .inl (cJ, 1, .inr (.inl fo))) :: Rr)) H → va_D (fun q : Nat => s.heap.size ≤ q) (C ++ ((o0, .inl (cJ, 1, .inr (.inl fo))) :: Rr)) → va_S (fun q : Nat => s.heap.size ≤ q) s.heap H locs → lv_has ls 7 [(0, .ref b), (1, .ref x0), (2, .ref m0), (3, .ref o0), (4, .int i)] → W p l e room_1 s m #[Value.ref b] below meth c H locs (k + 3) (n + 300) (lw_Z below #[Value.ref b] s) (F0 m 1797 ls [])) : W p l e room_1 s m #[Value.ref b] below meth c H locs k n (lw_Z below #[Value.ref b] s) (F0 m 1126 ls []) := by
  obtain ⟨hx, hb, hr, hml, hown, hts0, hX, hbl, hlocks, hgv⟩ := id C0
  have hts : ∀ w ∈ wA, w.before #[Value.ref b] s = true := fun w h => hts0 w (List.mem_filter.mp h).1
  have hown : s.vm.findClass RL = some m.cls := hown
  have hcf : CallFix p m c code 7 s #[Value.ref b] wA RL := ⟨hx, hb, hml, hown, hts⟩
  have hbA : ¬ (fun q : Nat => s.heap.size ≤ q) b := Nat.not_le.mpr hbl
  refine lv_aload_n hx hb dL_law_1126 rfl (lv_at hl 1 rfl) ?_
  refine lv_aload_n hx hb dL_law_1127 rfl (lv_at hl 0 rfl) ?_
  refine lv_iload hx hb dL_law_1128 (lv_at hl 4 rfl) ?_
  refine lv_iconst (v := 1) hx hb dL_law_1130 (by decide) ?_
  refine lv_iadd hx hb dL_law_1131 ?_
  refine lv_topi (fun v1131 e1131 => ?_)
  have i1131 : v1131.toInt = i.toInt + 1 := zadd e1131 rfl (by decide) (by omega) (by omega)
  refine va_sld hx hb hX hbl hbA hS (vp_in_iff.mpr ⟨by omega, by omega⟩) dL_law_1132 ?_
  refine lv_topi (fun v1132 e1132 => ?_)
  refine k_X10_next (rest := []) hcf hK3 hV hC hO hP hD hS (fun _ h => h) hl.1 (Nat.le_of_ble_eq_true rfl) (by show k + 0 ≤ 601024; omega) (by show n + 0 ≤ 7293034; omega) dL_law_1133 (fun v1133 C H locs hv1 hC hP hD hS => ?_)
  refine lv_pop hx hb dL_law_1136 rfl ?_
  refine lv_aload_n hx hb dL_law_1137 rfl (lv_at hl 2 rfl) ?_
  refine lv_aload_n hx hb dL_law_1138 rfl (lv_at hl 0 rfl) ?_
  refine lv_iload hx hb dL_law_1139 (lv_at hl 4 rfl) ?_
  refine lv_iconst (v := 1) hx hb dL_law_1141 (by decide) ?_
  refine lv_iadd hx hb dL_law_1142 ?_
  refine lv_topi (fun v1142 e1142 => ?_)
  have i1142 : v1142.toInt = i.toInt + 1 := zadd e1142 rfl (by decide) (by omega) (by omega)
  refine va_sld hx hb hX hbl hbA hS (vp_in_iff.mpr ⟨by omega, by omega⟩) dL_law_1143 ?_
  refine lv_topi (fun v1143 e1143 => ?_)
  have hP := zRotP hP
  have hD := zRotD hD
  refine k_X11_next (rest := []) hcf hK3 hV hR hO hP hD hS (fun _ h => h) hl.1 (Nat.le_of_ble_eq_true rfl) (by show k + 0 ≤ 601024; omega) (by show n + 0 ≤ 7293034; omega) dL_law_1144 (fun v1144 Rr H locs hv2 hR hP hD hS => ?_)
  have hP := zRotP' hP
  have hD := zRotD' hD
  have ev0 : v1143 = v1132 := by rw [e1143, e1132, e1142, e1131]
  rw [ev0] at hv2
  have er : v1133.toInt = v1144.toInt := hv1.trans hv2.symm
  refine lv_pop hx hb dL_law_1147 rfl ?_
  refine lv_goto (tgt := 1797) hx hb dL_law_1148 (by decide) ?_
  refine W.widen (k := k + 3) (n := n + 300) (by omega) (by omega) ?_
  exact J _ C Rr fo H locs ls hO hC hR hP hD hS (lv_sub hl [0, 1, 2, 3, 4] rfl)
set_option maxHeartbeats 4000000 in
set_option maxRecDepth 100000 in
theorem law_case_28 {p : Program} {l : Launch} {e : Env} {s : State} {m : MethodId} {below : List Frame} {meth : Method} {c : Code} {b L : Nat} {xs : Nat → Int32} {dC : Nat → ClassId} {dI : Nat → Nat → Nat} {cI cJ cQ : ClassId} {x0 m0 o0 : Nat} (hl0 : l.stackTraces = false) (C0 : lw_At p s m meth c b L xs) (hK3 : va_K (dC, dI) vwCl [(cI, .int), (cJ, .long), (cQ, .object "NinePortraits$Law")] s) (hV : zV (fun q : Nat => s.heap.size ≤ q) s) (hG : zG (fun q : Nat => s.heap.size ≤ q) s) (hCa : zCa s) (hL : L ≤ 3584) {sg : zSy} {C Rr : va_W} {fo : Nat → Int64} {i : Int32} {H : Heap} {locs : List Loc} {ls : Array Slot} {k n : Nat} (hO : zOkG sg) (hC : zCi cI cJ cQ x0 sg C) (hR : zRi cI m0 sg Rr) (hP : va_P (dC, dI) vwCl (C ++ ((o0, .inl (cJ, 1, .inr (.inl fo))) :: Rr)) H) (hD : va_D (fun q : Nat => s.heap.size ≤ q) (C ++ ((o0, .inl (cJ, 1, .inr (.inl fo))) :: Rr))) (hS : va_S (fun q : Nat => s.heap.size ≤ q) s.heap H locs) (hl : lv_has ls 7 [(0, .ref b), (1, .ref x0), (2, .ref m0), (3, .ref o0), (4, .int i)]) (hi0 : 0 ≤ i.toInt) (hiL : i.toInt + 7 ≤ (L : Int)) (hk : k + 3 ≤ 601024) (hn : n + 300 ≤ 7293034) (J : ∀ (sg : zSy) (C Rr : va_W) (fo : Nat → Int64) (H : Heap) (locs : List Loc) (ls : Array Slot), zOkG sg → zCi cI cJ cQ x0 sg C → zRi cI m0 sg Rr → va_P (dC, dI) vwCl (C ++ ((o0, .inl (cJ, 1, .inr (.inl fo))) :: Rr)) H → va_D (fun q : Nat => s.heap.size ≤ q) (C ++ ((o0, .inl (cJ, 1, .inr (.inl fo))) :: Rr)) → va_S (fun q : Nat => s.heap.size ≤ q) s.heap H locs → lv_has ls 7 [(0, .ref b), (1, .ref x0), (2, .ref m0), (3, .ref o0), (4, .int i)] → W p l e room_1 s m #[Value.ref b] below meth c H locs (k + 3) (n + 300) (lw_Z below #[Value.ref b] s) (F0 m 1797 ls [])) : W p l e room_1 s m #[Value.ref b] below meth c H locs k n (lw_Z below #[Value.ref b] s) (F0 m 1151 ls []) := by
  obtain ⟨hx, hb, hr, hml, hown, hts0, hX, hbl, hlocks, hgv⟩ := id C0
  have hts : ∀ w ∈ wA, w.before #[Value.ref b] s = true := fun w h => hts0 w (List.mem_filter.mp h).1
  have hown : s.vm.findClass RL = some m.cls := hown
  have hcf : CallFix p m c code 7 s #[Value.ref b] wA RL := ⟨hx, hb, hml, hown, hts⟩
  have hbA : ¬ (fun q : Nat => s.heap.size ≤ q) b := Nat.not_le.mpr hbl
  refine lv_aload_n hx hb dL_law_1151 rfl (lv_at hl 1 rfl) ?_
  refine lv_aload_n hx hb dL_law_1152 rfl (lv_at hl 0 rfl) ?_
  refine lv_iload hx hb dL_law_1153 (lv_at hl 4 rfl) ?_
  refine lv_iconst (v := 1) hx hb dL_law_1155 (by decide) ?_
  refine lv_iadd hx hb dL_law_1156 ?_
  refine lv_topi (fun v1156 e1156 => ?_)
  have i1156 : v1156.toInt = i.toInt + 1 := zadd e1156 rfl (by decide) (by omega) (by omega)
  refine va_sld hx hb hX hbl hbA hS (vp_in_iff.mpr ⟨by omega, by omega⟩) dL_law_1157 ?_
  refine lv_topi (fun v1157 e1157 => ?_)
  refine k_X10_apart (rest := []) hcf hK3 hV hC hO hP hD hS (fun _ h => h) hl.1 (Nat.le_of_ble_eq_true rfl) (by show k + 0 ≤ 601024; omega) (by show n + 0 ≤ 7293034; omega) dL_law_1158 (fun v1158 C H locs hv1 hC hP hD hS => ?_)
  refine lv_pop hx hb dL_law_1161 rfl ?_
  refine lv_aload_n hx hb dL_law_1162 rfl (lv_at hl 2 rfl) ?_
  refine lv_aload_n hx hb dL_law_1163 rfl (lv_at hl 0 rfl) ?_
  refine lv_iload hx hb dL_law_1164 (lv_at hl 4 rfl) ?_
  refine lv_iconst (v := 1) hx hb dL_law_1166 (by decide) ?_
  refine lv_iadd hx hb dL_law_1167 ?_
  refine lv_topi (fun v1167 e1167 => ?_)
  have i1167 : v1167.toInt = i.toInt + 1 := zadd e1167 rfl (by decide) (by omega) (by omega)
  refine va_sld hx hb hX hbl hbA hS (vp_in_iff.mpr ⟨by omega, by omega⟩) dL_law_1168 ?_
  refine lv_topi (fun v1168 e1168 => ?_)
  have hP := zRotP hP
  have hD := zRotD hD
  refine k_X11_apart (rest := []) hcf hK3 hV hR hO hP hD hS (fun _ h => h) hl.1 (Nat.le_of_ble_eq_true rfl) (by show k + 0 ≤ 601024; omega) (by show n + 0 ≤ 7293034; omega) dL_law_1169 (fun v1169 Rr H locs hv2 hR hP hD hS => ?_)
  have hP := zRotP' hP
  have hD := zRotD' hD
  have ev0 : v1168 = v1157 := by rw [e1168, e1157, e1167, e1156]
  rw [ev0] at hv2
  have er : v1158.toInt = v1169.toInt := hv1.trans hv2.symm
  refine lv_pop hx hb dL_law_1172 rfl ?_
  refine lv_goto (tgt := 1797) hx hb dL_law_1173 (by decide) ?_
  refine W.widen (k := k + 3) (n := n + 300) (by omega) (by omega) ?_
  exact J _ C Rr fo H locs ls hO hC hR hP hD hS (lv_sub hl [0, 1, 2, 3, 4] rfl)
set_option maxHeartbeats 4000000 in
set_option maxRecDepth 100000 in
theorem law_case_29 {p : Program} {l : Launch} {e : Env} {s : State} {m : MethodId} {below : List Frame} {meth : Method} {c : Code} {b L : Nat} {xs : Nat → Int32} {dC : Nat → ClassId} {dI : Nat → Nat → Nat} {cI cJ cQ : ClassId} {x0 m0 o0 : Nat} (hl0 : l.stackTraces = false) (C0 : lw_At p s m meth c b L xs) (hK3 : va_K (dC, dI) vwCl [(cI, .int), (cJ, .long), (cQ, .object "NinePortraits$Law")] s) (hV : zV (fun q : Nat => s.heap.size ≤ q) s) (hG : zG (fun q : Nat => s.heap.size ≤ q) s) (hCa : zCa s) (hL : L ≤ 3584) {sg : zSy} {C Rr : va_W} {fo : Nat → Int64} {i : Int32} {H : Heap} {locs : List Loc} {ls : Array Slot} {k n : Nat} (hO : zOkG sg) (hC : zCi cI cJ cQ x0 sg C) (hR : zRi cI m0 sg Rr) (hP : va_P (dC, dI) vwCl (C ++ ((o0, .inl (cJ, 1, .inr (.inl fo))) :: Rr)) H) (hD : va_D (fun q : Nat => s.heap.size ≤ q) (C ++ ((o0, .inl (cJ, 1, .inr (.inl fo))) :: Rr))) (hS : va_S (fun q : Nat => s.heap.size ≤ q) s.heap H locs) (hl : lv_has ls 7 [(0, .ref b), (1, .ref x0), (2, .ref m0), (3, .ref o0), (4, .int i)]) (hi0 : 0 ≤ i.toInt) (hiL : i.toInt + 7 ≤ (L : Int)) (hk : k + 3 ≤ 601024) (hn : n + 300 ≤ 7293034) (J : ∀ (sg : zSy) (C Rr : va_W) (fo : Nat → Int64) (H : Heap) (locs : List Loc) (ls : Array Slot), zOkG sg → zCi cI cJ cQ x0 sg C → zRi cI m0 sg Rr → va_P (dC, dI) vwCl (C ++ ((o0, .inl (cJ, 1, .inr (.inl fo))) :: Rr)) H → va_D (fun q : Nat => s.heap.size ≤ q) (C ++ ((o0, .inl (cJ, 1, .inr (.inl fo))) :: Rr)) → va_S (fun q : Nat => s.heap.size ≤ q) s.heap H locs → lv_has ls 7 [(0, .ref b), (1, .ref x0), (2, .ref m0), (3, .ref o0), (4, .int i)] → W p l e room_1 s m #[Value.ref b] below meth c H locs (k + 3) (n + 300) (lw_Z below #[Value.ref b] s) (F0 m 1797 ls [])) : W p l e room_1 s m #[Value.ref b] below meth c H locs k n (lw_Z below #[Value.ref b] s) (F0 m 1176 ls []) := by
  obtain ⟨hx, hb, hr, hml, hown, hts0, hX, hbl, hlocks, hgv⟩ := id C0
  have hts : ∀ w ∈ wA, w.before #[Value.ref b] s = true := fun w h => hts0 w (List.mem_filter.mp h).1
  have hown : s.vm.findClass RL = some m.cls := hown
  have hcf : CallFix p m c code 7 s #[Value.ref b] wA RL := ⟨hx, hb, hml, hown, hts⟩
  have hbA : ¬ (fun q : Nat => s.heap.size ≤ q) b := Nat.not_le.mpr hbl
  refine lv_aload_n hx hb dL_law_1176 rfl (lv_at hl 1 rfl) ?_
  refine lv_aload_n hx hb dL_law_1177 rfl (lv_at hl 0 rfl) ?_
  refine lv_iload hx hb dL_law_1178 (lv_at hl 4 rfl) ?_
  refine lv_iconst (v := 1) hx hb dL_law_1180 (by decide) ?_
  refine lv_iadd hx hb dL_law_1181 ?_
  refine lv_topi (fun v1181 e1181 => ?_)
  have i1181 : v1181.toInt = i.toInt + 1 := zadd e1181 rfl (by decide) (by omega) (by omega)
  refine va_sld hx hb hX hbl hbA hS (vp_in_iff.mpr ⟨by omega, by omega⟩) dL_law_1182 ?_
  refine lv_topi (fun v1182 e1182 => ?_)
  refine lv_aload_n hx hb dL_law_1183 rfl (lv_at hl 0 rfl) ?_
  refine lv_iload hx hb dL_law_1184 (lv_at hl 4 rfl) ?_
  refine lv_iconst (v := 2) hx hb dL_law_1186 (by decide) ?_
  refine lv_iadd hx hb dL_law_1187 ?_
  refine lv_topi (fun v1187 e1187 => ?_)
  have i1187 : v1187.toInt = i.toInt + 2 := zadd e1187 rfl (by decide) (by omega) (by omega)
  refine va_sld hx hb hX hbl hbA hS (vp_in_iff.mpr ⟨by omega, by omega⟩) dL_law_1188 ?_
  refine lv_topi (fun v1188 e1188 => ?_)
  refine k_X10_worth (rest := []) hcf hK3 hV hC hO hP hD hS (fun _ h => h) hl.1 (Nat.le_of_ble_eq_true rfl) (by show k + 0 ≤ 601024; omega) (by show n + 0 ≤ 7293034; omega) dL_law_1189 (fun v1189 C H locs hv1 hC hP hD hS => ?_)
  refine lv_pop hx hb dL_law_1192 rfl ?_
  refine lv_aload_n hx hb dL_law_1193 rfl (lv_at hl 2 rfl) ?_
  refine lv_aload_n hx hb dL_law_1194 rfl (lv_at hl 0 rfl) ?_
  refine lv_iload hx hb dL_law_1195 (lv_at hl 4 rfl) ?_
  refine lv_iconst (v := 1) hx hb dL_law_1197 (by decide) ?_
  refine lv_iadd hx hb dL_law_1198 ?_
  refine lv_topi (fun v1198 e1198 => ?_)
  have i1198 : v1198.toInt = i.toInt + 1 := zadd e1198 rfl (by decide) (by omega) (by omega)
  refine va_sld hx hb hX hbl hbA hS (vp_in_iff.mpr ⟨by omega, by omega⟩) dL_law_1199 ?_
  refine lv_topi (fun v1199 e1199 => ?_)
  refine lv_aload_n hx hb dL_law_1200 rfl (lv_at hl 0 rfl) ?_
  refine lv_iload hx hb dL_law_1201 (lv_at hl 4 rfl) ?_
  refine lv_iconst (v := 2) hx hb dL_law_1203 (by decide) ?_
  refine lv_iadd hx hb dL_law_1204 ?_
  refine lv_topi (fun v1204 e1204 => ?_)
  have i1204 : v1204.toInt = i.toInt + 2 := zadd e1204 rfl (by decide) (by omega) (by omega)
  refine va_sld hx hb hX hbl hbA hS (vp_in_iff.mpr ⟨by omega, by omega⟩) dL_law_1205 ?_
  refine lv_topi (fun v1205 e1205 => ?_)
  have hP := zRotP hP
  have hD := zRotD hD
  refine k_X11_worth (rest := []) hcf hK3 hV hR hO hP hD hS (fun _ h => h) hl.1 (Nat.le_of_ble_eq_true rfl) (by show k + 0 ≤ 601024; omega) (by show n + 0 ≤ 7293034; omega) dL_law_1206 (fun v1206 Rr H locs hv2 hR hP hD hS => ?_)
  have hP := zRotP' hP
  have hD := zRotD' hD
  have ev0 : v1199 = v1182 := by rw [e1199, e1182, e1198, e1181]
  rw [ev0] at hv2
  have ev1 : v1205 = v1188 := by rw [e1205, e1188, e1204, e1187]
  rw [ev1] at hv2
  have er : v1189.toInt = v1206.toInt := congrArg Int32.toInt (hv1.trans hv2.symm)
  refine lv_pop hx hb dL_law_1209 rfl ?_
  refine lv_goto (tgt := 1797) hx hb dL_law_1210 (by decide) ?_
  refine W.widen (k := k + 3) (n := n + 300) (by omega) (by omega) ?_
  exact J _ C Rr fo H locs ls hO hC hR hP hD hS (lv_sub hl [0, 1, 2, 3, 4] rfl)
set_option maxHeartbeats 4000000 in
set_option maxRecDepth 100000 in
theorem law_case_30 {p : Program} {l : Launch} {e : Env} {s : State} {m : MethodId} {below : List Frame} {meth : Method} {c : Code} {b L : Nat} {xs : Nat → Int32} {dC : Nat → ClassId} {dI : Nat → Nat → Nat} {cI cJ cQ : ClassId} {x0 m0 o0 : Nat} (hl0 : l.stackTraces = false) (C0 : lw_At p s m meth c b L xs) (hK3 : va_K (dC, dI) vwCl [(cI, .int), (cJ, .long), (cQ, .object "NinePortraits$Law")] s) (hV : zV (fun q : Nat => s.heap.size ≤ q) s) (hG : zG (fun q : Nat => s.heap.size ≤ q) s) (hCa : zCa s) (hL : L ≤ 3584) {sg : zSy} {C Rr : va_W} {fo : Nat → Int64} {i : Int32} {H : Heap} {locs : List Loc} {ls : Array Slot} {k n : Nat} (hO : zOkG sg) (hC : zCi cI cJ cQ x0 sg C) (hR : zRi cI m0 sg Rr) (hP : va_P (dC, dI) vwCl (C ++ ((o0, .inl (cJ, 1, .inr (.inl fo))) :: Rr)) H) (hD : va_D (fun q : Nat => s.heap.size ≤ q) (C ++ ((o0, .inl (cJ, 1, .inr (.inl fo))) :: Rr))) (hS : va_S (fun q : Nat => s.heap.size ≤ q) s.heap H locs) (hl : lv_has ls 7 [(0, .ref b), (1, .ref x0), (2, .ref m0), (3, .ref o0), (4, .int i)]) (hi0 : 0 ≤ i.toInt) (hiL : i.toInt + 7 ≤ (L : Int)) (hk : k + 3 ≤ 601024) (hn : n + 300 ≤ 7293034) (J : ∀ (sg : zSy) (C Rr : va_W) (fo : Nat → Int64) (H : Heap) (locs : List Loc) (ls : Array Slot), zOkG sg → zCi cI cJ cQ x0 sg C → zRi cI m0 sg Rr → va_P (dC, dI) vwCl (C ++ ((o0, .inl (cJ, 1, .inr (.inl fo))) :: Rr)) H → va_D (fun q : Nat => s.heap.size ≤ q) (C ++ ((o0, .inl (cJ, 1, .inr (.inl fo))) :: Rr)) → va_S (fun q : Nat => s.heap.size ≤ q) s.heap H locs → lv_has ls 7 [(0, .ref b), (1, .ref x0), (2, .ref m0), (3, .ref o0), (4, .int i)] → W p l e room_1 s m #[Value.ref b] below meth c H locs (k + 3) (n + 300) (lw_Z below #[Value.ref b] s) (F0 m 1797 ls [])) : W p l e room_1 s m #[Value.ref b] below meth c H locs k n (lw_Z below #[Value.ref b] s) (F0 m 1213 ls []) := by
  obtain ⟨hx, hb, hr, hml, hown, hts0, hX, hbl, hlocks, hgv⟩ := id C0
  have hts : ∀ w ∈ wA, w.before #[Value.ref b] s = true := fun w h => hts0 w (List.mem_filter.mp h).1
  have hown : s.vm.findClass RL = some m.cls := hown
  have hcf : CallFix p m c code 7 s #[Value.ref b] wA RL := ⟨hx, hb, hml, hown, hts⟩
  have hbA : ¬ (fun q : Nat => s.heap.size ≤ q) b := Nat.not_le.mpr hbl
  refine lv_aload_n hx hb dL_law_1213 rfl (lv_at hl 1 rfl) ?_
  refine lv_aload_n hx hb dL_law_1214 rfl (lv_at hl 0 rfl) ?_
  refine lv_iload hx hb dL_law_1215 (lv_at hl 4 rfl) ?_
  refine lv_iconst (v := 1) hx hb dL_law_1217 (by decide) ?_
  refine lv_iadd hx hb dL_law_1218 ?_
  refine lv_topi (fun v1218 e1218 => ?_)
  have i1218 : v1218.toInt = i.toInt + 1 := zadd e1218 rfl (by decide) (by omega) (by omega)
  refine va_sld hx hb hX hbl hbA hS (vp_in_iff.mpr ⟨by omega, by omega⟩) dL_law_1219 ?_
  refine lv_topi (fun v1219 e1219 => ?_)
  refine k_X10_chooses (rest := []) hcf hK3 hV hC hO hP hD hS (fun _ h => h) hl.1 (Nat.le_of_ble_eq_true rfl) (by show k + 0 ≤ 601024; omega) (by show n + 0 ≤ 7293034; omega) dL_law_1220 (fun v1220 C H locs hC hP hD hS => ?_)
  refine lv_pop hx hb dL_law_1223 rfl ?_
  refine lv_aload_n hx hb dL_law_1224 rfl (lv_at hl 2 rfl) ?_
  refine lv_aload_n hx hb dL_law_1225 rfl (lv_at hl 0 rfl) ?_
  refine lv_iload hx hb dL_law_1226 (lv_at hl 4 rfl) ?_
  refine lv_iconst (v := 1) hx hb dL_law_1228 (by decide) ?_
  refine lv_iadd hx hb dL_law_1229 ?_
  refine lv_topi (fun v1229 e1229 => ?_)
  have i1229 : v1229.toInt = i.toInt + 1 := zadd e1229 rfl (by decide) (by omega) (by omega)
  refine va_sld hx hb hX hbl hbA hS (vp_in_iff.mpr ⟨by omega, by omega⟩) dL_law_1230 ?_
  refine lv_topi (fun v1230 e1230 => ?_)
  have hP := zRotP hP
  have hD := zRotD hD
  refine k_X11_chooses (rest := []) hcf hK3 hV hR hO hP hD hS (fun _ h => h) hl.1 (Nat.le_of_ble_eq_true rfl) (by show k + 0 ≤ 601024; omega) (by show n + 0 ≤ 7293034; omega) dL_law_1231 (fun v1231 Rr H locs hR hP hD hS => ?_)
  have hP := zRotP' hP
  have hD := zRotD' hD
  refine lv_pop hx hb dL_law_1234 rfl ?_
  refine lv_goto (tgt := 1797) hx hb dL_law_1235 (by decide) ?_
  refine W.widen (k := k + 3) (n := n + 300) (by omega) (by omega) ?_
  exact J _ C Rr fo H locs ls hO hC hR hP hD hS (lv_sub hl [0, 1, 2, 3, 4] rfl)
set_option maxHeartbeats 4000000 in
set_option maxRecDepth 100000 in
theorem law_case_31 {p : Program} {l : Launch} {e : Env} {s : State} {m : MethodId} {below : List Frame} {meth : Method} {c : Code} {b L : Nat} {xs : Nat → Int32} {dC : Nat → ClassId} {dI : Nat → Nat → Nat} {cI cJ cQ : ClassId} {x0 m0 o0 : Nat} (hl0 : l.stackTraces = false) (C0 : lw_At p s m meth c b L xs) (hK3 : va_K (dC, dI) vwCl [(cI, .int), (cJ, .long), (cQ, .object "NinePortraits$Law")] s) (hV : zV (fun q : Nat => s.heap.size ≤ q) s) (hG : zG (fun q : Nat => s.heap.size ≤ q) s) (hCa : zCa s) (hL : L ≤ 3584) {sg : zSy} {C Rr : va_W} {fo : Nat → Int64} {i : Int32} {H : Heap} {locs : List Loc} {ls : Array Slot} {k n : Nat} (hO : zOkG sg) (hC : zCi cI cJ cQ x0 sg C) (hR : zRi cI m0 sg Rr) (hP : va_P (dC, dI) vwCl (C ++ ((o0, .inl (cJ, 1, .inr (.inl fo))) :: Rr)) H) (hD : va_D (fun q : Nat => s.heap.size ≤ q) (C ++ ((o0, .inl (cJ, 1, .inr (.inl fo))) :: Rr))) (hS : va_S (fun q : Nat => s.heap.size ≤ q) s.heap H locs) (hl : lv_has ls 7 [(0, .ref b), (1, .ref x0), (2, .ref m0), (3, .ref o0), (4, .int i)]) (hi0 : 0 ≤ i.toInt) (hiL : i.toInt + 7 ≤ (L : Int)) (hk : k + 3 ≤ 601024) (hn : n + 300 ≤ 7293034) (J : ∀ (sg : zSy) (C Rr : va_W) (fo : Nat → Int64) (H : Heap) (locs : List Loc) (ls : Array Slot), zOkG sg → zCi cI cJ cQ x0 sg C → zRi cI m0 sg Rr → va_P (dC, dI) vwCl (C ++ ((o0, .inl (cJ, 1, .inr (.inl fo))) :: Rr)) H → va_D (fun q : Nat => s.heap.size ≤ q) (C ++ ((o0, .inl (cJ, 1, .inr (.inl fo))) :: Rr)) → va_S (fun q : Nat => s.heap.size ≤ q) s.heap H locs → lv_has ls 7 [(0, .ref b), (1, .ref x0), (2, .ref m0), (3, .ref o0), (4, .int i)] → W p l e room_1 s m #[Value.ref b] below meth c H locs (k + 3) (n + 300) (lw_Z below #[Value.ref b] s) (F0 m 1797 ls [])) : W p l e room_1 s m #[Value.ref b] below meth c H locs k n (lw_Z below #[Value.ref b] s) (F0 m 1238 ls []) := by
  obtain ⟨hx, hb, hr, hml, hown, hts0, hX, hbl, hlocks, hgv⟩ := id C0
  have hts : ∀ w ∈ wA, w.before #[Value.ref b] s = true := fun w h => hts0 w (List.mem_filter.mp h).1
  have hown : s.vm.findClass RL = some m.cls := hown
  have hcf : CallFix p m c code 7 s #[Value.ref b] wA RL := ⟨hx, hb, hml, hown, hts⟩
  have hbA : ¬ (fun q : Nat => s.heap.size ≤ q) b := Nat.not_le.mpr hbl
  refine lv_aload_n hx hb dL_law_1238 rfl (lv_at hl 1 rfl) ?_
  refine lv_aload_n hx hb dL_law_1239 rfl (lv_at hl 0 rfl) ?_
  refine lv_iload hx hb dL_law_1240 (lv_at hl 4 rfl) ?_
  refine lv_iconst (v := 1) hx hb dL_law_1242 (by decide) ?_
  refine lv_iadd hx hb dL_law_1243 ?_
  refine lv_topi (fun v1243 e1243 => ?_)
  have i1243 : v1243.toInt = i.toInt + 1 := zadd e1243 rfl (by decide) (by omega) (by omega)
  refine va_sld hx hb hX hbl hbA hS (vp_in_iff.mpr ⟨by omega, by omega⟩) dL_law_1244 ?_
  refine lv_topi (fun v1244 e1244 => ?_)
  refine lv_aload_n hx hb dL_law_1245 rfl (lv_at hl 0 rfl) ?_
  refine lv_iload hx hb dL_law_1246 (lv_at hl 4 rfl) ?_
  refine lv_iconst (v := 2) hx hb dL_law_1248 (by decide) ?_
  refine lv_iadd hx hb dL_law_1249 ?_
  refine lv_topi (fun v1249 e1249 => ?_)
  have i1249 : v1249.toInt = i.toInt + 2 := zadd e1249 rfl (by decide) (by omega) (by omega)
  refine va_sld hx hb hX hbl hbA hS (vp_in_iff.mpr ⟨by omega, by omega⟩) dL_law_1250 ?_
  refine lv_topi (fun v1250 e1250 => ?_)
  refine lv_aload_n hx hb dL_law_1251 rfl (lv_at hl 0 rfl) ?_
  refine lv_iload hx hb dL_law_1252 (lv_at hl 4 rfl) ?_
  refine lv_iconst (v := 3) hx hb dL_law_1254 (by decide) ?_
  refine lv_iadd hx hb dL_law_1255 ?_
  refine lv_topi (fun v1255 e1255 => ?_)
  have i1255 : v1255.toInt = i.toInt + 3 := zadd e1255 rfl (by decide) (by omega) (by omega)
  refine va_sld hx hb hX hbl hbA hS (vp_in_iff.mpr ⟨by omega, by omega⟩) dL_law_1256 ?_
  refine lv_topi (fun v1256 e1256 => ?_)
  refine lv_aload_n hx hb dL_law_1257 rfl (lv_at hl 0 rfl) ?_
  refine lv_iload hx hb dL_law_1258 (lv_at hl 4 rfl) ?_
  refine lv_iconst (v := 4) hx hb dL_law_1260 (by decide) ?_
  refine lv_iadd hx hb dL_law_1261 ?_
  refine lv_topi (fun v1261 e1261 => ?_)
  have i1261 : v1261.toInt = i.toInt + 4 := zadd e1261 rfl (by decide) (by omega) (by omega)
  refine va_sld hx hb hX hbl hbA hS (vp_in_iff.mpr ⟨by omega, by omega⟩) dL_law_1262 ?_
  refine lv_topi (fun v1262 e1262 => ?_)
  refine lv_aload_n hx hb dL_law_1263 rfl (lv_at hl 0 rfl) ?_
  refine lv_iload hx hb dL_law_1264 (lv_at hl 4 rfl) ?_
  refine lv_iconst (v := 5) hx hb dL_law_1266 (by decide) ?_
  refine lv_iadd hx hb dL_law_1267 ?_
  refine lv_topi (fun v1267 e1267 => ?_)
  have i1267 : v1267.toInt = i.toInt + 5 := zadd e1267 rfl (by decide) (by omega) (by omega)
  refine va_sld hx hb hX hbl hbA hS (vp_in_iff.mpr ⟨by omega, by omega⟩) dL_law_1268 ?_
  refine lv_topi (fun v1268 e1268 => ?_)
  refine lv_aload_n hx hb dL_law_1269 rfl (lv_at hl 0 rfl) ?_
  refine lv_iload hx hb dL_law_1270 (lv_at hl 4 rfl) ?_
  refine lv_bipush (v := 6) hx hb dL_law_1272 (by decide) ?_
  refine lv_iadd hx hb dL_law_1274 ?_
  refine lv_topi (fun v1274 e1274 => ?_)
  have i1274 : v1274.toInt = i.toInt + 6 := zadd e1274 rfl (by decide) (by omega) (by omega)
  refine va_sld hx hb hX hbl hbA hS (vp_in_iff.mpr ⟨by omega, by omega⟩) dL_law_1275 ?_
  refine lv_topi (fun v1275 e1275 => ?_)
  refine k_X10_game (rest := []) hcf hK3 hV hC hO hP hD hS (fun _ h => h) hl.1 (Nat.le_of_ble_eq_true rfl) (by show k + 0 ≤ 601024; omega) (by show n + 0 ≤ 7293034; omega) dL_law_1276 (fun v1276 C H locs hv1 hC hP hD hS => ?_)
  refine lv_pop hx hb dL_law_1279 rfl ?_
  refine lv_aload_n hx hb dL_law_1280 rfl (lv_at hl 2 rfl) ?_
  refine lv_aload_n hx hb dL_law_1281 rfl (lv_at hl 0 rfl) ?_
  refine lv_iload hx hb dL_law_1282 (lv_at hl 4 rfl) ?_
  refine lv_iconst (v := 1) hx hb dL_law_1284 (by decide) ?_
  refine lv_iadd hx hb dL_law_1285 ?_
  refine lv_topi (fun v1285 e1285 => ?_)
  have i1285 : v1285.toInt = i.toInt + 1 := zadd e1285 rfl (by decide) (by omega) (by omega)
  refine va_sld hx hb hX hbl hbA hS (vp_in_iff.mpr ⟨by omega, by omega⟩) dL_law_1286 ?_
  refine lv_topi (fun v1286 e1286 => ?_)
  refine lv_aload_n hx hb dL_law_1287 rfl (lv_at hl 0 rfl) ?_
  refine lv_iload hx hb dL_law_1288 (lv_at hl 4 rfl) ?_
  refine lv_iconst (v := 2) hx hb dL_law_1290 (by decide) ?_
  refine lv_iadd hx hb dL_law_1291 ?_
  refine lv_topi (fun v1291 e1291 => ?_)
  have i1291 : v1291.toInt = i.toInt + 2 := zadd e1291 rfl (by decide) (by omega) (by omega)
  refine va_sld hx hb hX hbl hbA hS (vp_in_iff.mpr ⟨by omega, by omega⟩) dL_law_1292 ?_
  refine lv_topi (fun v1292 e1292 => ?_)
  refine lv_aload_n hx hb dL_law_1293 rfl (lv_at hl 0 rfl) ?_
  refine lv_iload hx hb dL_law_1294 (lv_at hl 4 rfl) ?_
  refine lv_iconst (v := 3) hx hb dL_law_1296 (by decide) ?_
  refine lv_iadd hx hb dL_law_1297 ?_
  refine lv_topi (fun v1297 e1297 => ?_)
  have i1297 : v1297.toInt = i.toInt + 3 := zadd e1297 rfl (by decide) (by omega) (by omega)
  refine va_sld hx hb hX hbl hbA hS (vp_in_iff.mpr ⟨by omega, by omega⟩) dL_law_1298 ?_
  refine lv_topi (fun v1298 e1298 => ?_)
  refine lv_aload_n hx hb dL_law_1299 rfl (lv_at hl 0 rfl) ?_
  refine lv_iload hx hb dL_law_1300 (lv_at hl 4 rfl) ?_
  refine lv_iconst (v := 4) hx hb dL_law_1302 (by decide) ?_
  refine lv_iadd hx hb dL_law_1303 ?_
  refine lv_topi (fun v1303 e1303 => ?_)
  have i1303 : v1303.toInt = i.toInt + 4 := zadd e1303 rfl (by decide) (by omega) (by omega)
  refine va_sld hx hb hX hbl hbA hS (vp_in_iff.mpr ⟨by omega, by omega⟩) dL_law_1304 ?_
  refine lv_topi (fun v1304 e1304 => ?_)
  refine lv_aload_n hx hb dL_law_1305 rfl (lv_at hl 0 rfl) ?_
  refine lv_iload hx hb dL_law_1306 (lv_at hl 4 rfl) ?_
  refine lv_iconst (v := 5) hx hb dL_law_1308 (by decide) ?_
  refine lv_iadd hx hb dL_law_1309 ?_
  refine lv_topi (fun v1309 e1309 => ?_)
  have i1309 : v1309.toInt = i.toInt + 5 := zadd e1309 rfl (by decide) (by omega) (by omega)
  refine va_sld hx hb hX hbl hbA hS (vp_in_iff.mpr ⟨by omega, by omega⟩) dL_law_1310 ?_
  refine lv_topi (fun v1310 e1310 => ?_)
  refine lv_aload_n hx hb dL_law_1311 rfl (lv_at hl 0 rfl) ?_
  refine lv_iload hx hb dL_law_1312 (lv_at hl 4 rfl) ?_
  refine lv_bipush (v := 6) hx hb dL_law_1314 (by decide) ?_
  refine lv_iadd hx hb dL_law_1316 ?_
  refine lv_topi (fun v1316 e1316 => ?_)
  have i1316 : v1316.toInt = i.toInt + 6 := zadd e1316 rfl (by decide) (by omega) (by omega)
  refine va_sld hx hb hX hbl hbA hS (vp_in_iff.mpr ⟨by omega, by omega⟩) dL_law_1317 ?_
  refine lv_topi (fun v1317 e1317 => ?_)
  have hP := zRotP hP
  have hD := zRotD hD
  refine k_X11_game (rest := []) hcf hK3 hV hR hO hP hD hS (fun _ h => h) hl.1 (Nat.le_of_ble_eq_true rfl) (by show k + 0 ≤ 601024; omega) (by show n + 0 ≤ 7293034; omega) dL_law_1318 (fun v1318 Rr H locs hv2 hR hP hD hS => ?_)
  have hP := zRotP' hP
  have hD := zRotD' hD
  have ev0 : v1286 = v1244 := by rw [e1286, e1244, e1285, e1243]
  rw [ev0] at hv2
  have ev1 : v1292 = v1250 := by rw [e1292, e1250, e1291, e1249]
  rw [ev1] at hv2
  have ev2 : v1298 = v1256 := by rw [e1298, e1256, e1297, e1255]
  rw [ev2] at hv2
  have ev3 : v1304 = v1262 := by rw [e1304, e1262, e1303, e1261]
  rw [ev3] at hv2
  have ev4 : v1310 = v1268 := by rw [e1310, e1268, e1309, e1267]
  rw [ev4] at hv2
  have ev5 : v1317 = v1275 := by rw [e1317, e1275, e1316, e1274]
  rw [ev5] at hv2
  have er : v1276.toInt = v1318.toInt := congrArg Int32.toInt (hv1.trans hv2.symm)
  refine lv_pop hx hb dL_law_1321 rfl ?_
  refine lv_goto (tgt := 1797) hx hb dL_law_1322 (by decide) ?_
  refine W.widen (k := k + 3) (n := n + 300) (by omega) (by omega) ?_
  exact J _ C Rr fo H locs ls hO hC hR hP hD hS (lv_sub hl [0, 1, 2, 3, 4] rfl)
set_option maxHeartbeats 4000000 in
set_option maxRecDepth 100000 in
theorem law_case_32 {p : Program} {l : Launch} {e : Env} {s : State} {m : MethodId} {below : List Frame} {meth : Method} {c : Code} {b L : Nat} {xs : Nat → Int32} {dC : Nat → ClassId} {dI : Nat → Nat → Nat} {cI cJ cQ : ClassId} {x0 m0 o0 : Nat} (hl0 : l.stackTraces = false) (C0 : lw_At p s m meth c b L xs) (hK3 : va_K (dC, dI) vwCl [(cI, .int), (cJ, .long), (cQ, .object "NinePortraits$Law")] s) (hV : zV (fun q : Nat => s.heap.size ≤ q) s) (hG : zG (fun q : Nat => s.heap.size ≤ q) s) (hCa : zCa s) (hL : L ≤ 3584) {sg : zSy} {C Rr : va_W} {fo : Nat → Int64} {i : Int32} {H : Heap} {locs : List Loc} {ls : Array Slot} {k n : Nat} (hO : zOkG sg) (hC : zCi cI cJ cQ x0 sg C) (hR : zRi cI m0 sg Rr) (hP : va_P (dC, dI) vwCl (C ++ ((o0, .inl (cJ, 1, .inr (.inl fo))) :: Rr)) H) (hD : va_D (fun q : Nat => s.heap.size ≤ q) (C ++ ((o0, .inl (cJ, 1, .inr (.inl fo))) :: Rr))) (hS : va_S (fun q : Nat => s.heap.size ≤ q) s.heap H locs) (hl : lv_has ls 7 [(0, .ref b), (1, .ref x0), (2, .ref m0), (3, .ref o0), (4, .int i)]) (hi0 : 0 ≤ i.toInt) (hiL : i.toInt + 7 ≤ (L : Int)) (hk : k + 3 ≤ 601024) (hn : n + 300 ≤ 7293034) (J : ∀ (sg : zSy) (C Rr : va_W) (fo : Nat → Int64) (H : Heap) (locs : List Loc) (ls : Array Slot), zOkG sg → zCi cI cJ cQ x0 sg C → zRi cI m0 sg Rr → va_P (dC, dI) vwCl (C ++ ((o0, .inl (cJ, 1, .inr (.inl fo))) :: Rr)) H → va_D (fun q : Nat => s.heap.size ≤ q) (C ++ ((o0, .inl (cJ, 1, .inr (.inl fo))) :: Rr)) → va_S (fun q : Nat => s.heap.size ≤ q) s.heap H locs → lv_has ls 7 [(0, .ref b), (1, .ref x0), (2, .ref m0), (3, .ref o0), (4, .int i)] → W p l e room_1 s m #[Value.ref b] below meth c H locs (k + 3) (n + 300) (lw_Z below #[Value.ref b] s) (F0 m 1797 ls [])) : W p l e room_1 s m #[Value.ref b] below meth c H locs k n (lw_Z below #[Value.ref b] s) (F0 m 1325 ls []) := by
  obtain ⟨hx, hb, hr, hml, hown, hts0, hX, hbl, hlocks, hgv⟩ := id C0
  have hts : ∀ w ∈ wA, w.before #[Value.ref b] s = true := fun w h => hts0 w (List.mem_filter.mp h).1
  have hown : s.vm.findClass RL = some m.cls := hown
  have hcf : CallFix p m c code 7 s #[Value.ref b] wA RL := ⟨hx, hb, hml, hown, hts⟩
  have hbA : ¬ (fun q : Nat => s.heap.size ≤ q) b := Nat.not_le.mpr hbl
  refine lv_aload_n hx hb dL_law_1325 rfl (lv_at hl 1 rfl) ?_
  refine lv_aload_n hx hb dL_law_1326 rfl (lv_at hl 0 rfl) ?_
  refine lv_iload hx hb dL_law_1327 (lv_at hl 4 rfl) ?_
  refine lv_iconst (v := 1) hx hb dL_law_1329 (by decide) ?_
  refine lv_iadd hx hb dL_law_1330 ?_
  refine lv_topi (fun v1330 e1330 => ?_)
  have i1330 : v1330.toInt = i.toInt + 1 := zadd e1330 rfl (by decide) (by omega) (by omega)
  refine va_sld hx hb hX hbl hbA hS (vp_in_iff.mpr ⟨by omega, by omega⟩) dL_law_1331 ?_
  refine lv_topi (fun v1331 e1331 => ?_)
  refine lv_aload_n hx hb dL_law_1332 rfl (lv_at hl 0 rfl) ?_
  refine lv_iload hx hb dL_law_1333 (lv_at hl 4 rfl) ?_
  refine lv_iconst (v := 2) hx hb dL_law_1335 (by decide) ?_
  refine lv_iadd hx hb dL_law_1336 ?_
  refine lv_topi (fun v1336 e1336 => ?_)
  have i1336 : v1336.toInt = i.toInt + 2 := zadd e1336 rfl (by decide) (by omega) (by omega)
  refine va_sld hx hb hX hbl hbA hS (vp_in_iff.mpr ⟨by omega, by omega⟩) dL_law_1337 ?_
  refine lv_topi (fun v1337 e1337 => ?_)
  refine lv_aload_n hx hb dL_law_1338 rfl (lv_at hl 0 rfl) ?_
  refine lv_iload hx hb dL_law_1339 (lv_at hl 4 rfl) ?_
  refine lv_iconst (v := 3) hx hb dL_law_1341 (by decide) ?_
  refine lv_iadd hx hb dL_law_1342 ?_
  refine lv_topi (fun v1342 e1342 => ?_)
  have i1342 : v1342.toInt = i.toInt + 3 := zadd e1342 rfl (by decide) (by omega) (by omega)
  refine va_sld hx hb hX hbl hbA hS (vp_in_iff.mpr ⟨by omega, by omega⟩) dL_law_1343 ?_
  refine lv_topi (fun v1343 e1343 => ?_)
  refine lv_aload_n hx hb dL_law_1344 rfl (lv_at hl 0 rfl) ?_
  refine lv_iload hx hb dL_law_1345 (lv_at hl 4 rfl) ?_
  refine lv_iconst (v := 4) hx hb dL_law_1347 (by decide) ?_
  refine lv_iadd hx hb dL_law_1348 ?_
  refine lv_topi (fun v1348 e1348 => ?_)
  have i1348 : v1348.toInt = i.toInt + 4 := zadd e1348 rfl (by decide) (by omega) (by omega)
  refine va_sld hx hb hX hbl hbA hS (vp_in_iff.mpr ⟨by omega, by omega⟩) dL_law_1349 ?_
  refine lv_topi (fun v1349 e1349 => ?_)
  refine k_X10_rests (rest := []) hcf hK3 hV hC hO hP hD hS (fun _ h => h) hl.1 (Nat.le_of_ble_eq_true rfl) (by show k + 0 ≤ 601024; omega) (by show n + 0 ≤ 7293034; omega) dL_law_1350 (fun v1350 C H locs hv1 hC hP hD hS => ?_)
  refine lv_pop hx hb dL_law_1353 rfl ?_
  refine lv_aload_n hx hb dL_law_1354 rfl (lv_at hl 2 rfl) ?_
  refine lv_aload_n hx hb dL_law_1355 rfl (lv_at hl 0 rfl) ?_
  refine lv_iload hx hb dL_law_1356 (lv_at hl 4 rfl) ?_
  refine lv_iconst (v := 1) hx hb dL_law_1358 (by decide) ?_
  refine lv_iadd hx hb dL_law_1359 ?_
  refine lv_topi (fun v1359 e1359 => ?_)
  have i1359 : v1359.toInt = i.toInt + 1 := zadd e1359 rfl (by decide) (by omega) (by omega)
  refine va_sld hx hb hX hbl hbA hS (vp_in_iff.mpr ⟨by omega, by omega⟩) dL_law_1360 ?_
  refine lv_topi (fun v1360 e1360 => ?_)
  refine lv_aload_n hx hb dL_law_1361 rfl (lv_at hl 0 rfl) ?_
  refine lv_iload hx hb dL_law_1362 (lv_at hl 4 rfl) ?_
  refine lv_iconst (v := 2) hx hb dL_law_1364 (by decide) ?_
  refine lv_iadd hx hb dL_law_1365 ?_
  refine lv_topi (fun v1365 e1365 => ?_)
  have i1365 : v1365.toInt = i.toInt + 2 := zadd e1365 rfl (by decide) (by omega) (by omega)
  refine va_sld hx hb hX hbl hbA hS (vp_in_iff.mpr ⟨by omega, by omega⟩) dL_law_1366 ?_
  refine lv_topi (fun v1366 e1366 => ?_)
  refine lv_aload_n hx hb dL_law_1367 rfl (lv_at hl 0 rfl) ?_
  refine lv_iload hx hb dL_law_1368 (lv_at hl 4 rfl) ?_
  refine lv_iconst (v := 3) hx hb dL_law_1370 (by decide) ?_
  refine lv_iadd hx hb dL_law_1371 ?_
  refine lv_topi (fun v1371 e1371 => ?_)
  have i1371 : v1371.toInt = i.toInt + 3 := zadd e1371 rfl (by decide) (by omega) (by omega)
  refine va_sld hx hb hX hbl hbA hS (vp_in_iff.mpr ⟨by omega, by omega⟩) dL_law_1372 ?_
  refine lv_topi (fun v1372 e1372 => ?_)
  refine lv_aload_n hx hb dL_law_1373 rfl (lv_at hl 0 rfl) ?_
  refine lv_iload hx hb dL_law_1374 (lv_at hl 4 rfl) ?_
  refine lv_iconst (v := 4) hx hb dL_law_1376 (by decide) ?_
  refine lv_iadd hx hb dL_law_1377 ?_
  refine lv_topi (fun v1377 e1377 => ?_)
  have i1377 : v1377.toInt = i.toInt + 4 := zadd e1377 rfl (by decide) (by omega) (by omega)
  refine va_sld hx hb hX hbl hbA hS (vp_in_iff.mpr ⟨by omega, by omega⟩) dL_law_1378 ?_
  refine lv_topi (fun v1378 e1378 => ?_)
  have hP := zRotP hP
  have hD := zRotD hD
  refine k_X11_rests (rest := []) hcf hK3 hV hR hO hP hD hS (fun _ h => h) hl.1 (Nat.le_of_ble_eq_true rfl) (by show k + 0 ≤ 601024; omega) (by show n + 0 ≤ 7293034; omega) dL_law_1379 (fun v1379 Rr H locs hv2 hR hP hD hS => ?_)
  have hP := zRotP' hP
  have hD := zRotD' hD
  have ev0 : v1360 = v1331 := by rw [e1360, e1331, e1359, e1330]
  rw [ev0] at hv2
  have ev1 : v1366 = v1337 := by rw [e1366, e1337, e1365, e1336]
  rw [ev1] at hv2
  have ev2 : v1372 = v1343 := by rw [e1372, e1343, e1371, e1342]
  rw [ev2] at hv2
  have ev3 : v1378 = v1349 := by rw [e1378, e1349, e1377, e1348]
  rw [ev3] at hv2
  have er : v1350.toInt = v1379.toInt := hv1.trans hv2.symm
  refine lv_pop hx hb dL_law_1382 rfl ?_
  refine lv_goto (tgt := 1797) hx hb dL_law_1383 (by decide) ?_
  refine W.widen (k := k + 3) (n := n + 300) (by omega) (by omega) ?_
  exact J _ C Rr fo H locs ls hO hC hR hP hD hS (lv_sub hl [0, 1, 2, 3, 4] rfl)
set_option maxHeartbeats 4000000 in
set_option maxRecDepth 100000 in
theorem law_case_33 {p : Program} {l : Launch} {e : Env} {s : State} {m : MethodId} {below : List Frame} {meth : Method} {c : Code} {b L : Nat} {xs : Nat → Int32} {dC : Nat → ClassId} {dI : Nat → Nat → Nat} {cI cJ cQ : ClassId} {x0 m0 o0 : Nat} (hl0 : l.stackTraces = false) (C0 : lw_At p s m meth c b L xs) (hK3 : va_K (dC, dI) vwCl [(cI, .int), (cJ, .long), (cQ, .object "NinePortraits$Law")] s) (hV : zV (fun q : Nat => s.heap.size ≤ q) s) (hG : zG (fun q : Nat => s.heap.size ≤ q) s) (hCa : zCa s) (hL : L ≤ 3584) {sg : zSy} {C Rr : va_W} {fo : Nat → Int64} {i : Int32} {H : Heap} {locs : List Loc} {ls : Array Slot} {k n : Nat} (hO : zOkG sg) (hC : zCi cI cJ cQ x0 sg C) (hR : zRi cI m0 sg Rr) (hP : va_P (dC, dI) vwCl (C ++ ((o0, .inl (cJ, 1, .inr (.inl fo))) :: Rr)) H) (hD : va_D (fun q : Nat => s.heap.size ≤ q) (C ++ ((o0, .inl (cJ, 1, .inr (.inl fo))) :: Rr))) (hS : va_S (fun q : Nat => s.heap.size ≤ q) s.heap H locs) (hl : lv_has ls 7 [(0, .ref b), (1, .ref x0), (2, .ref m0), (3, .ref o0), (4, .int i)]) (hi0 : 0 ≤ i.toInt) (hiL : i.toInt + 7 ≤ (L : Int)) (hk : k + 3 ≤ 601024) (hn : n + 300 ≤ 7293034) (J : ∀ (sg : zSy) (C Rr : va_W) (fo : Nat → Int64) (H : Heap) (locs : List Loc) (ls : Array Slot), zOkG sg → zCi cI cJ cQ x0 sg C → zRi cI m0 sg Rr → va_P (dC, dI) vwCl (C ++ ((o0, .inl (cJ, 1, .inr (.inl fo))) :: Rr)) H → va_D (fun q : Nat => s.heap.size ≤ q) (C ++ ((o0, .inl (cJ, 1, .inr (.inl fo))) :: Rr)) → va_S (fun q : Nat => s.heap.size ≤ q) s.heap H locs → lv_has ls 7 [(0, .ref b), (1, .ref x0), (2, .ref m0), (3, .ref o0), (4, .int i)] → W p l e room_1 s m #[Value.ref b] below meth c H locs (k + 3) (n + 300) (lw_Z below #[Value.ref b] s) (F0 m 1797 ls [])) : W p l e room_1 s m #[Value.ref b] below meth c H locs k n (lw_Z below #[Value.ref b] s) (F0 m 1386 ls []) := by
  obtain ⟨hx, hb, hr, hml, hown, hts0, hX, hbl, hlocks, hgv⟩ := id C0
  have hts : ∀ w ∈ wA, w.before #[Value.ref b] s = true := fun w h => hts0 w (List.mem_filter.mp h).1
  have hown : s.vm.findClass RL = some m.cls := hown
  have hcf : CallFix p m c code 7 s #[Value.ref b] wA RL := ⟨hx, hb, hml, hown, hts⟩
  have hbA : ¬ (fun q : Nat => s.heap.size ≤ q) b := Nat.not_le.mpr hbl
  refine lv_aload_n hx hb dL_law_1386 rfl (lv_at hl 1 rfl) ?_
  refine lv_aload_n hx hb dL_law_1387 rfl (lv_at hl 0 rfl) ?_
  refine lv_iload hx hb dL_law_1388 (lv_at hl 4 rfl) ?_
  refine lv_iconst (v := 1) hx hb dL_law_1390 (by decide) ?_
  refine lv_iadd hx hb dL_law_1391 ?_
  refine lv_topi (fun v1391 e1391 => ?_)
  have i1391 : v1391.toInt = i.toInt + 1 := zadd e1391 rfl (by decide) (by omega) (by omega)
  refine va_sld hx hb hX hbl hbA hS (vp_in_iff.mpr ⟨by omega, by omega⟩) dL_law_1392 ?_
  refine lv_topi (fun v1392 e1392 => ?_)
  refine lv_aload_n hx hb dL_law_1393 rfl (lv_at hl 0 rfl) ?_
  refine lv_iload hx hb dL_law_1394 (lv_at hl 4 rfl) ?_
  refine lv_iconst (v := 2) hx hb dL_law_1396 (by decide) ?_
  refine lv_iadd hx hb dL_law_1397 ?_
  refine lv_topi (fun v1397 e1397 => ?_)
  have i1397 : v1397.toInt = i.toInt + 2 := zadd e1397 rfl (by decide) (by omega) (by omega)
  refine va_sld hx hb hX hbl hbA hS (vp_in_iff.mpr ⟨by omega, by omega⟩) dL_law_1398 ?_
  refine lv_topi (fun v1398 e1398 => ?_)
  refine k_X10_truth (rest := []) hcf hK3 hV hC hO hP hD hS (fun _ h => h) hl.1 (Nat.le_of_ble_eq_true rfl) (by show k + 0 ≤ 601024; omega) (by show n + 0 ≤ 7293034; omega) dL_law_1399 (fun v1399 C H locs hv1 hC hP hD hS => ?_)
  refine lv_pop hx hb dL_law_1402 rfl ?_
  refine lv_aload_n hx hb dL_law_1403 rfl (lv_at hl 2 rfl) ?_
  refine lv_aload_n hx hb dL_law_1404 rfl (lv_at hl 0 rfl) ?_
  refine lv_iload hx hb dL_law_1405 (lv_at hl 4 rfl) ?_
  refine lv_iconst (v := 1) hx hb dL_law_1407 (by decide) ?_
  refine lv_iadd hx hb dL_law_1408 ?_
  refine lv_topi (fun v1408 e1408 => ?_)
  have i1408 : v1408.toInt = i.toInt + 1 := zadd e1408 rfl (by decide) (by omega) (by omega)
  refine va_sld hx hb hX hbl hbA hS (vp_in_iff.mpr ⟨by omega, by omega⟩) dL_law_1409 ?_
  refine lv_topi (fun v1409 e1409 => ?_)
  refine lv_aload_n hx hb dL_law_1410 rfl (lv_at hl 0 rfl) ?_
  refine lv_iload hx hb dL_law_1411 (lv_at hl 4 rfl) ?_
  refine lv_iconst (v := 2) hx hb dL_law_1413 (by decide) ?_
  refine lv_iadd hx hb dL_law_1414 ?_
  refine lv_topi (fun v1414 e1414 => ?_)
  have i1414 : v1414.toInt = i.toInt + 2 := zadd e1414 rfl (by decide) (by omega) (by omega)
  refine va_sld hx hb hX hbl hbA hS (vp_in_iff.mpr ⟨by omega, by omega⟩) dL_law_1415 ?_
  refine lv_topi (fun v1415 e1415 => ?_)
  have hP := zRotP hP
  have hD := zRotD hD
  refine k_X11_truth (rest := []) hcf hK3 hV hR hO hP hD hS (fun _ h => h) hl.1 (Nat.le_of_ble_eq_true rfl) (by show k + 0 ≤ 601024; omega) (by show n + 0 ≤ 7293034; omega) dL_law_1416 (fun v1416 Rr H locs hv2 hR hP hD hS => ?_)
  have hP := zRotP' hP
  have hD := zRotD' hD
  have ev0 : v1409 = v1392 := by rw [e1409, e1392, e1408, e1391]
  rw [ev0] at hv2
  have ev1 : v1415 = v1398 := by rw [e1415, e1398, e1414, e1397]
  rw [ev1] at hv2
  have er : v1399.toInt = v1416.toInt := congrArg Int32.toInt (hv1.trans hv2.symm)
  refine lv_pop hx hb dL_law_1419 rfl ?_
  refine lv_goto (tgt := 1797) hx hb dL_law_1420 (by decide) ?_
  refine W.widen (k := k + 3) (n := n + 300) (by omega) (by omega) ?_
  exact J _ C Rr fo H locs ls hO hC hR hP hD hS (lv_sub hl [0, 1, 2, 3, 4] rfl)
set_option maxHeartbeats 4000000 in
set_option maxRecDepth 100000 in
theorem law_case_34 {p : Program} {l : Launch} {e : Env} {s : State} {m : MethodId} {below : List Frame} {meth : Method} {c : Code} {b L : Nat} {xs : Nat → Int32} {dC : Nat → ClassId} {dI : Nat → Nat → Nat} {cI cJ cQ : ClassId} {x0 m0 o0 : Nat} (hl0 : l.stackTraces = false) (C0 : lw_At p s m meth c b L xs) (hK3 : va_K (dC, dI) vwCl [(cI, .int), (cJ, .long), (cQ, .object "NinePortraits$Law")] s) (hV : zV (fun q : Nat => s.heap.size ≤ q) s) (hG : zG (fun q : Nat => s.heap.size ≤ q) s) (hCa : zCa s) (hL : L ≤ 3584) {sg : zSy} {C Rr : va_W} {fo : Nat → Int64} {i : Int32} {H : Heap} {locs : List Loc} {ls : Array Slot} {k n : Nat} (hO : zOkG sg) (hC : zCi cI cJ cQ x0 sg C) (hR : zRi cI m0 sg Rr) (hP : va_P (dC, dI) vwCl (C ++ ((o0, .inl (cJ, 1, .inr (.inl fo))) :: Rr)) H) (hD : va_D (fun q : Nat => s.heap.size ≤ q) (C ++ ((o0, .inl (cJ, 1, .inr (.inl fo))) :: Rr))) (hS : va_S (fun q : Nat => s.heap.size ≤ q) s.heap H locs) (hl : lv_has ls 7 [(0, .ref b), (1, .ref x0), (2, .ref m0), (3, .ref o0), (4, .int i)]) (hi0 : 0 ≤ i.toInt) (hiL : i.toInt + 7 ≤ (L : Int)) (hk : k + 3 ≤ 601024) (hn : n + 300 ≤ 7293034) (J : ∀ (sg : zSy) (C Rr : va_W) (fo : Nat → Int64) (H : Heap) (locs : List Loc) (ls : Array Slot), zOkG sg → zCi cI cJ cQ x0 sg C → zRi cI m0 sg Rr → va_P (dC, dI) vwCl (C ++ ((o0, .inl (cJ, 1, .inr (.inl fo))) :: Rr)) H → va_D (fun q : Nat => s.heap.size ≤ q) (C ++ ((o0, .inl (cJ, 1, .inr (.inl fo))) :: Rr)) → va_S (fun q : Nat => s.heap.size ≤ q) s.heap H locs → lv_has ls 7 [(0, .ref b), (1, .ref x0), (2, .ref m0), (3, .ref o0), (4, .int i)] → W p l e room_1 s m #[Value.ref b] below meth c H locs (k + 3) (n + 300) (lw_Z below #[Value.ref b] s) (F0 m 1797 ls [])) : W p l e room_1 s m #[Value.ref b] below meth c H locs k n (lw_Z below #[Value.ref b] s) (F0 m 1423 ls []) := by
  obtain ⟨hx, hb, hr, hml, hown, hts0, hX, hbl, hlocks, hgv⟩ := id C0
  have hts : ∀ w ∈ wA, w.before #[Value.ref b] s = true := fun w h => hts0 w (List.mem_filter.mp h).1
  have hown : s.vm.findClass RL = some m.cls := hown
  have hcf : CallFix p m c code 7 s #[Value.ref b] wA RL := ⟨hx, hb, hml, hown, hts⟩
  have hbA : ¬ (fun q : Nat => s.heap.size ≤ q) b := Nat.not_le.mpr hbl
  refine lv_aload_n hx hb dL_law_1423 rfl (lv_at hl 1 rfl) ?_
  refine lv_aload_n hx hb dL_law_1424 rfl (lv_at hl 0 rfl) ?_
  refine lv_iload hx hb dL_law_1425 (lv_at hl 4 rfl) ?_
  refine lv_iconst (v := 1) hx hb dL_law_1427 (by decide) ?_
  refine lv_iadd hx hb dL_law_1428 ?_
  refine lv_topi (fun v1428 e1428 => ?_)
  have i1428 : v1428.toInt = i.toInt + 1 := zadd e1428 rfl (by decide) (by omega) (by omega)
  refine va_sld hx hb hX hbl hbA hS (vp_in_iff.mpr ⟨by omega, by omega⟩) dL_law_1429 ?_
  refine lv_topi (fun v1429 e1429 => ?_)
  refine lv_aload_n hx hb dL_law_1430 rfl (lv_at hl 0 rfl) ?_
  refine lv_iload hx hb dL_law_1431 (lv_at hl 4 rfl) ?_
  refine lv_iconst (v := 2) hx hb dL_law_1433 (by decide) ?_
  refine lv_iadd hx hb dL_law_1434 ?_
  refine lv_topi (fun v1434 e1434 => ?_)
  have i1434 : v1434.toInt = i.toInt + 2 := zadd e1434 rfl (by decide) (by omega) (by omega)
  refine va_sld hx hb hX hbl hbA hS (vp_in_iff.mpr ⟨by omega, by omega⟩) dL_law_1435 ?_
  refine lv_topi (fun v1435 e1435 => ?_)
  refine k_X10_cheapest (rest := []) hcf hK3 hV hC hO hP hD hS (fun _ h => h) hl.1 (Nat.le_of_ble_eq_true rfl) (by show k + 0 ≤ 601024; omega) (by show n + 0 ≤ 7293034; omega) dL_law_1436 (fun v1436 C H locs hv1 hC hP hD hS => ?_)
  refine lv_pop hx hb dL_law_1439 rfl ?_
  refine lv_aload_n hx hb dL_law_1440 rfl (lv_at hl 2 rfl) ?_
  refine lv_aload_n hx hb dL_law_1441 rfl (lv_at hl 0 rfl) ?_
  refine lv_iload hx hb dL_law_1442 (lv_at hl 4 rfl) ?_
  refine lv_iconst (v := 1) hx hb dL_law_1444 (by decide) ?_
  refine lv_iadd hx hb dL_law_1445 ?_
  refine lv_topi (fun v1445 e1445 => ?_)
  have i1445 : v1445.toInt = i.toInt + 1 := zadd e1445 rfl (by decide) (by omega) (by omega)
  refine va_sld hx hb hX hbl hbA hS (vp_in_iff.mpr ⟨by omega, by omega⟩) dL_law_1446 ?_
  refine lv_topi (fun v1446 e1446 => ?_)
  refine lv_aload_n hx hb dL_law_1447 rfl (lv_at hl 0 rfl) ?_
  refine lv_iload hx hb dL_law_1448 (lv_at hl 4 rfl) ?_
  refine lv_iconst (v := 2) hx hb dL_law_1450 (by decide) ?_
  refine lv_iadd hx hb dL_law_1451 ?_
  refine lv_topi (fun v1451 e1451 => ?_)
  have i1451 : v1451.toInt = i.toInt + 2 := zadd e1451 rfl (by decide) (by omega) (by omega)
  refine va_sld hx hb hX hbl hbA hS (vp_in_iff.mpr ⟨by omega, by omega⟩) dL_law_1452 ?_
  refine lv_topi (fun v1452 e1452 => ?_)
  have hP := zRotP hP
  have hD := zRotD hD
  refine k_X11_cheapest (rest := []) hcf hK3 hV hR hO hP hD hS (fun _ h => h) hl.1 (Nat.le_of_ble_eq_true rfl) (by show k + 0 ≤ 601024; omega) (by show n + 0 ≤ 7293034; omega) dL_law_1453 (fun v1453 Rr H locs hv2 hR hP hD hS => ?_)
  have hP := zRotP' hP
  have hD := zRotD' hD
  have ev0 : v1446 = v1429 := by rw [e1446, e1429, e1445, e1428]
  rw [ev0] at hv2
  have ev1 : v1452 = v1435 := by rw [e1452, e1435, e1451, e1434]
  rw [ev1] at hv2
  have er : v1436.toInt = v1453.toInt := hv1.trans hv2.symm
  refine lv_pop hx hb dL_law_1456 rfl ?_
  refine lv_goto (tgt := 1797) hx hb dL_law_1457 (by decide) ?_
  refine W.widen (k := k + 3) (n := n + 300) (by omega) (by omega) ?_
  exact J _ C Rr fo H locs ls hO hC hR hP hD hS (lv_sub hl [0, 1, 2, 3, 4] rfl)
set_option maxHeartbeats 4000000 in
set_option maxRecDepth 100000 in
theorem law_case_35 {p : Program} {l : Launch} {e : Env} {s : State} {m : MethodId} {below : List Frame} {meth : Method} {c : Code} {b L : Nat} {xs : Nat → Int32} {dC : Nat → ClassId} {dI : Nat → Nat → Nat} {cI cJ cQ : ClassId} {x0 m0 o0 : Nat} (hl0 : l.stackTraces = false) (C0 : lw_At p s m meth c b L xs) (hK3 : va_K (dC, dI) vwCl [(cI, .int), (cJ, .long), (cQ, .object "NinePortraits$Law")] s) (hV : zV (fun q : Nat => s.heap.size ≤ q) s) (hG : zG (fun q : Nat => s.heap.size ≤ q) s) (hCa : zCa s) (hL : L ≤ 3584) {sg : zSy} {C Rr : va_W} {fo : Nat → Int64} {i : Int32} {H : Heap} {locs : List Loc} {ls : Array Slot} {k n : Nat} (hO : zOkG sg) (hC : zCi cI cJ cQ x0 sg C) (hR : zRi cI m0 sg Rr) (hP : va_P (dC, dI) vwCl (C ++ ((o0, .inl (cJ, 1, .inr (.inl fo))) :: Rr)) H) (hD : va_D (fun q : Nat => s.heap.size ≤ q) (C ++ ((o0, .inl (cJ, 1, .inr (.inl fo))) :: Rr))) (hS : va_S (fun q : Nat => s.heap.size ≤ q) s.heap H locs) (hl : lv_has ls 7 [(0, .ref b), (1, .ref x0), (2, .ref m0), (3, .ref o0), (4, .int i)]) (hi0 : 0 ≤ i.toInt) (hiL : i.toInt + 7 ≤ (L : Int)) (hk : k + 3 ≤ 601024) (hn : n + 300 ≤ 7293034) (J : ∀ (sg : zSy) (C Rr : va_W) (fo : Nat → Int64) (H : Heap) (locs : List Loc) (ls : Array Slot), zOkG sg → zCi cI cJ cQ x0 sg C → zRi cI m0 sg Rr → va_P (dC, dI) vwCl (C ++ ((o0, .inl (cJ, 1, .inr (.inl fo))) :: Rr)) H → va_D (fun q : Nat => s.heap.size ≤ q) (C ++ ((o0, .inl (cJ, 1, .inr (.inl fo))) :: Rr)) → va_S (fun q : Nat => s.heap.size ≤ q) s.heap H locs → lv_has ls 7 [(0, .ref b), (1, .ref x0), (2, .ref m0), (3, .ref o0), (4, .int i)] → W p l e room_1 s m #[Value.ref b] below meth c H locs (k + 3) (n + 300) (lw_Z below #[Value.ref b] s) (F0 m 1797 ls [])) : W p l e room_1 s m #[Value.ref b] below meth c H locs k n (lw_Z below #[Value.ref b] s) (F0 m 1460 ls []) := by
  obtain ⟨hx, hb, hr, hml, hown, hts0, hX, hbl, hlocks, hgv⟩ := id C0
  have hts : ∀ w ∈ wA, w.before #[Value.ref b] s = true := fun w h => hts0 w (List.mem_filter.mp h).1
  have hown : s.vm.findClass RL = some m.cls := hown
  have hcf : CallFix p m c code 7 s #[Value.ref b] wA RL := ⟨hx, hb, hml, hown, hts⟩
  have hbA : ¬ (fun q : Nat => s.heap.size ≤ q) b := Nat.not_le.mpr hbl
  refine lv_aload_n hx hb dL_law_1460 rfl (lv_at hl 1 rfl) ?_
  refine lv_aload_n hx hb dL_law_1461 rfl (lv_at hl 0 rfl) ?_
  refine lv_iload hx hb dL_law_1462 (lv_at hl 4 rfl) ?_
  refine lv_iconst (v := 1) hx hb dL_law_1464 (by decide) ?_
  refine lv_iadd hx hb dL_law_1465 ?_
  refine lv_topi (fun v1465 e1465 => ?_)
  have i1465 : v1465.toInt = i.toInt + 1 := zadd e1465 rfl (by decide) (by omega) (by omega)
  refine va_sld hx hb hX hbl hbA hS (vp_in_iff.mpr ⟨by omega, by omega⟩) dL_law_1466 ?_
  refine lv_topi (fun v1466 e1466 => ?_)
  refine k_X10_looks (rest := []) hcf hK3 hV hC hO hP hD hS (fun _ h => h) hl.1 (Nat.le_of_ble_eq_true rfl) (by show k + 0 ≤ 601024; omega) (by show n + 0 ≤ 7293034; omega) dL_law_1467 (fun v1467 C H locs hv1 hC hP hD hS => ?_)
  refine lv_pop hx hb dL_law_1470 rfl ?_
  refine lv_aload_n hx hb dL_law_1471 rfl (lv_at hl 2 rfl) ?_
  refine lv_aload_n hx hb dL_law_1472 rfl (lv_at hl 0 rfl) ?_
  refine lv_iload hx hb dL_law_1473 (lv_at hl 4 rfl) ?_
  refine lv_iconst (v := 1) hx hb dL_law_1475 (by decide) ?_
  refine lv_iadd hx hb dL_law_1476 ?_
  refine lv_topi (fun v1476 e1476 => ?_)
  have i1476 : v1476.toInt = i.toInt + 1 := zadd e1476 rfl (by decide) (by omega) (by omega)
  refine va_sld hx hb hX hbl hbA hS (vp_in_iff.mpr ⟨by omega, by omega⟩) dL_law_1477 ?_
  refine lv_topi (fun v1477 e1477 => ?_)
  have hP := zRotP hP
  have hD := zRotD hD
  refine k_X11_looks (rest := []) hcf hK3 hV hR hO hP hD hS (fun _ h => h) hl.1 (Nat.le_of_ble_eq_true rfl) (by show k + 0 ≤ 601024; omega) (by show n + 0 ≤ 7293034; omega) dL_law_1478 (fun v1478 Rr H locs hv2 hR hP hD hS => ?_)
  have hP := zRotP' hP
  have hD := zRotD' hD
  have ev0 : v1477 = v1466 := by rw [e1477, e1466, e1476, e1465]
  rw [ev0] at hv2
  have er : v1467.toInt = v1478.toInt := congrArg Int32.toInt (hv1.trans hv2.symm)
  refine lv_pop hx hb dL_law_1481 rfl ?_
  refine lv_goto (tgt := 1797) hx hb dL_law_1482 (by decide) ?_
  refine W.widen (k := k + 3) (n := n + 300) (by omega) (by omega) ?_
  exact J _ C Rr fo H locs ls hO hC hR hP hD hS (lv_sub hl [0, 1, 2, 3, 4] rfl)
set_option maxHeartbeats 4000000 in
set_option maxRecDepth 100000 in
theorem law_case_36 {p : Program} {l : Launch} {e : Env} {s : State} {m : MethodId} {below : List Frame} {meth : Method} {c : Code} {b L : Nat} {xs : Nat → Int32} {dC : Nat → ClassId} {dI : Nat → Nat → Nat} {cI cJ cQ : ClassId} {x0 m0 o0 : Nat} (hl0 : l.stackTraces = false) (C0 : lw_At p s m meth c b L xs) (hK3 : va_K (dC, dI) vwCl [(cI, .int), (cJ, .long), (cQ, .object "NinePortraits$Law")] s) (hV : zV (fun q : Nat => s.heap.size ≤ q) s) (hG : zG (fun q : Nat => s.heap.size ≤ q) s) (hCa : zCa s) (hL : L ≤ 3584) {sg : zSy} {C Rr : va_W} {fo : Nat → Int64} {i : Int32} {H : Heap} {locs : List Loc} {ls : Array Slot} {k n : Nat} (hO : zOkG sg) (hC : zCi cI cJ cQ x0 sg C) (hR : zRi cI m0 sg Rr) (hP : va_P (dC, dI) vwCl (C ++ ((o0, .inl (cJ, 1, .inr (.inl fo))) :: Rr)) H) (hD : va_D (fun q : Nat => s.heap.size ≤ q) (C ++ ((o0, .inl (cJ, 1, .inr (.inl fo))) :: Rr))) (hS : va_S (fun q : Nat => s.heap.size ≤ q) s.heap H locs) (hl : lv_has ls 7 [(0, .ref b), (1, .ref x0), (2, .ref m0), (3, .ref o0), (4, .int i)]) (hi0 : 0 ≤ i.toInt) (hiL : i.toInt + 7 ≤ (L : Int)) (hk : k + 3 ≤ 601024) (hn : n + 300 ≤ 7293034) (J : ∀ (sg : zSy) (C Rr : va_W) (fo : Nat → Int64) (H : Heap) (locs : List Loc) (ls : Array Slot), zOkG sg → zCi cI cJ cQ x0 sg C → zRi cI m0 sg Rr → va_P (dC, dI) vwCl (C ++ ((o0, .inl (cJ, 1, .inr (.inl fo))) :: Rr)) H → va_D (fun q : Nat => s.heap.size ≤ q) (C ++ ((o0, .inl (cJ, 1, .inr (.inl fo))) :: Rr)) → va_S (fun q : Nat => s.heap.size ≤ q) s.heap H locs → lv_has ls 7 [(0, .ref b), (1, .ref x0), (2, .ref m0), (3, .ref o0), (4, .int i)] → W p l e room_1 s m #[Value.ref b] below meth c H locs (k + 3) (n + 300) (lw_Z below #[Value.ref b] s) (F0 m 1797 ls [])) : W p l e room_1 s m #[Value.ref b] below meth c H locs k n (lw_Z below #[Value.ref b] s) (F0 m 1485 ls []) := by
  obtain ⟨hx, hb, hr, hml, hown, hts0, hX, hbl, hlocks, hgv⟩ := id C0
  have hts : ∀ w ∈ wA, w.before #[Value.ref b] s = true := fun w h => hts0 w (List.mem_filter.mp h).1
  have hown : s.vm.findClass RL = some m.cls := hown
  have hcf : CallFix p m c code 7 s #[Value.ref b] wA RL := ⟨hx, hb, hml, hown, hts⟩
  have hbA : ¬ (fun q : Nat => s.heap.size ≤ q) b := Nat.not_le.mpr hbl
  refine lv_aload_n hx hb dL_law_1485 rfl (lv_at hl 1 rfl) ?_
  refine lv_aload_n hx hb dL_law_1486 rfl (lv_at hl 0 rfl) ?_
  refine lv_iload hx hb dL_law_1487 (lv_at hl 4 rfl) ?_
  refine lv_iconst (v := 1) hx hb dL_law_1489 (by decide) ?_
  refine lv_iadd hx hb dL_law_1490 ?_
  refine lv_topi (fun v1490 e1490 => ?_)
  have i1490 : v1490.toInt = i.toInt + 1 := zadd e1490 rfl (by decide) (by omega) (by omega)
  refine va_sld hx hb hX hbl hbA hS (vp_in_iff.mpr ⟨by omega, by omega⟩) dL_law_1491 ?_
  refine lv_topi (fun v1491 e1491 => ?_)
  refine lv_aload_n hx hb dL_law_1492 rfl (lv_at hl 0 rfl) ?_
  refine lv_iload hx hb dL_law_1493 (lv_at hl 4 rfl) ?_
  refine lv_iconst (v := 2) hx hb dL_law_1495 (by decide) ?_
  refine lv_iadd hx hb dL_law_1496 ?_
  refine lv_topi (fun v1496 e1496 => ?_)
  have i1496 : v1496.toInt = i.toInt + 2 := zadd e1496 rfl (by decide) (by omega) (by omega)
  refine va_sld hx hb hX hbl hbA hS (vp_in_iff.mpr ⟨by omega, by omega⟩) dL_law_1497 ?_
  refine lv_topi (fun v1497 e1497 => ?_)
  refine k_X10_whose (rest := []) hcf hK3 hV hC hO hP hD hS (fun _ h => h) hl.1 (Nat.le_of_ble_eq_true rfl) (by show k + 0 ≤ 601024; omega) (by show n + 0 ≤ 7293034; omega) dL_law_1498 (fun v1498 C H locs hv1 hC hP hD hS => ?_)
  refine lv_pop hx hb dL_law_1501 rfl ?_
  refine lv_aload_n hx hb dL_law_1502 rfl (lv_at hl 2 rfl) ?_
  refine lv_aload_n hx hb dL_law_1503 rfl (lv_at hl 0 rfl) ?_
  refine lv_iload hx hb dL_law_1504 (lv_at hl 4 rfl) ?_
  refine lv_iconst (v := 1) hx hb dL_law_1506 (by decide) ?_
  refine lv_iadd hx hb dL_law_1507 ?_
  refine lv_topi (fun v1507 e1507 => ?_)
  have i1507 : v1507.toInt = i.toInt + 1 := zadd e1507 rfl (by decide) (by omega) (by omega)
  refine va_sld hx hb hX hbl hbA hS (vp_in_iff.mpr ⟨by omega, by omega⟩) dL_law_1508 ?_
  refine lv_topi (fun v1508 e1508 => ?_)
  refine lv_aload_n hx hb dL_law_1509 rfl (lv_at hl 0 rfl) ?_
  refine lv_iload hx hb dL_law_1510 (lv_at hl 4 rfl) ?_
  refine lv_iconst (v := 2) hx hb dL_law_1512 (by decide) ?_
  refine lv_iadd hx hb dL_law_1513 ?_
  refine lv_topi (fun v1513 e1513 => ?_)
  have i1513 : v1513.toInt = i.toInt + 2 := zadd e1513 rfl (by decide) (by omega) (by omega)
  refine va_sld hx hb hX hbl hbA hS (vp_in_iff.mpr ⟨by omega, by omega⟩) dL_law_1514 ?_
  refine lv_topi (fun v1514 e1514 => ?_)
  have hP := zRotP hP
  have hD := zRotD hD
  refine k_X11_whose (rest := []) hcf hK3 hV hR hO hP hD hS (fun _ h => h) hl.1 (Nat.le_of_ble_eq_true rfl) (by show k + 0 ≤ 601024; omega) (by show n + 0 ≤ 7293034; omega) dL_law_1515 (fun v1515 Rr H locs hv2 hR hP hD hS => ?_)
  have hP := zRotP' hP
  have hD := zRotD' hD
  have ev0 : v1508 = v1491 := by rw [e1508, e1491, e1507, e1490]
  rw [ev0] at hv2
  have ev1 : v1514 = v1497 := by rw [e1514, e1497, e1513, e1496]
  rw [ev1] at hv2
  have er : v1498.toInt = v1515.toInt := congrArg Int32.toInt (hv1.trans hv2.symm)
  refine lv_pop hx hb dL_law_1518 rfl ?_
  refine lv_goto (tgt := 1797) hx hb dL_law_1519 (by decide) ?_
  refine W.widen (k := k + 3) (n := n + 300) (by omega) (by omega) ?_
  exact J _ C Rr fo H locs ls hO hC hR hP hD hS (lv_sub hl [0, 1, 2, 3, 4] rfl)
set_option maxHeartbeats 4000000 in
set_option maxRecDepth 100000 in
theorem law_case_37 {p : Program} {l : Launch} {e : Env} {s : State} {m : MethodId} {below : List Frame} {meth : Method} {c : Code} {b L : Nat} {xs : Nat → Int32} {dC : Nat → ClassId} {dI : Nat → Nat → Nat} {cI cJ cQ : ClassId} {x0 m0 o0 : Nat} (hl0 : l.stackTraces = false) (C0 : lw_At p s m meth c b L xs) (hK3 : va_K (dC, dI) vwCl [(cI, .int), (cJ, .long), (cQ, .object "NinePortraits$Law")] s) (hV : zV (fun q : Nat => s.heap.size ≤ q) s) (hG : zG (fun q : Nat => s.heap.size ≤ q) s) (hCa : zCa s) (hL : L ≤ 3584) {sg : zSy} {C Rr : va_W} {fo : Nat → Int64} {i : Int32} {H : Heap} {locs : List Loc} {ls : Array Slot} {k n : Nat} (hO : zOkG sg) (hC : zCi cI cJ cQ x0 sg C) (hR : zRi cI m0 sg Rr) (hP : va_P (dC, dI) vwCl (C ++ ((o0, .inl (cJ, 1, .inr (.inl fo))) :: Rr)) H) (hD : va_D (fun q : Nat => s.heap.size ≤ q) (C ++ ((o0, .inl (cJ, 1, .inr (.inl fo))) :: Rr))) (hS : va_S (fun q : Nat => s.heap.size ≤ q) s.heap H locs) (hl : lv_has ls 7 [(0, .ref b), (1, .ref x0), (2, .ref m0), (3, .ref o0), (4, .int i)]) (hi0 : 0 ≤ i.toInt) (hiL : i.toInt + 7 ≤ (L : Int)) (hk : k + 3 ≤ 601024) (hn : n + 300 ≤ 7293034) (J : ∀ (sg : zSy) (C Rr : va_W) (fo : Nat → Int64) (H : Heap) (locs : List Loc) (ls : Array Slot), zOkG sg → zCi cI cJ cQ x0 sg C → zRi cI m0 sg Rr → va_P (dC, dI) vwCl (C ++ ((o0, .inl (cJ, 1, .inr (.inl fo))) :: Rr)) H → va_D (fun q : Nat => s.heap.size ≤ q) (C ++ ((o0, .inl (cJ, 1, .inr (.inl fo))) :: Rr)) → va_S (fun q : Nat => s.heap.size ≤ q) s.heap H locs → lv_has ls 7 [(0, .ref b), (1, .ref x0), (2, .ref m0), (3, .ref o0), (4, .int i)] → W p l e room_1 s m #[Value.ref b] below meth c H locs (k + 3) (n + 300) (lw_Z below #[Value.ref b] s) (F0 m 1797 ls [])) : W p l e room_1 s m #[Value.ref b] below meth c H locs k n (lw_Z below #[Value.ref b] s) (F0 m 1522 ls []) := by
  obtain ⟨hx, hb, hr, hml, hown, hts0, hX, hbl, hlocks, hgv⟩ := id C0
  have hts : ∀ w ∈ wA, w.before #[Value.ref b] s = true := fun w h => hts0 w (List.mem_filter.mp h).1
  have hown : s.vm.findClass RL = some m.cls := hown
  have hcf : CallFix p m c code 7 s #[Value.ref b] wA RL := ⟨hx, hb, hml, hown, hts⟩
  have hbA : ¬ (fun q : Nat => s.heap.size ≤ q) b := Nat.not_le.mpr hbl
  refine lv_aload_n hx hb dL_law_1522 rfl (lv_at hl 1 rfl) ?_
  refine lv_aload_n hx hb dL_law_1523 rfl (lv_at hl 0 rfl) ?_
  refine lv_iload hx hb dL_law_1524 (lv_at hl 4 rfl) ?_
  refine lv_iconst (v := 1) hx hb dL_law_1526 (by decide) ?_
  refine lv_iadd hx hb dL_law_1527 ?_
  refine lv_topi (fun v1527 e1527 => ?_)
  have i1527 : v1527.toInt = i.toInt + 1 := zadd e1527 rfl (by decide) (by omega) (by omega)
  refine va_sld hx hb hX hbl hbA hS (vp_in_iff.mpr ⟨by omega, by omega⟩) dL_law_1528 ?_
  refine lv_topi (fun v1528 e1528 => ?_)
  refine lv_aload_n hx hb dL_law_1529 rfl (lv_at hl 0 rfl) ?_
  refine lv_iload hx hb dL_law_1530 (lv_at hl 4 rfl) ?_
  refine lv_iconst (v := 2) hx hb dL_law_1532 (by decide) ?_
  refine lv_iadd hx hb dL_law_1533 ?_
  refine lv_topi (fun v1533 e1533 => ?_)
  have i1533 : v1533.toInt = i.toInt + 2 := zadd e1533 rfl (by decide) (by omega) (by omega)
  refine va_sld hx hb hX hbl hbA hS (vp_in_iff.mpr ⟨by omega, by omega⟩) dL_law_1534 ?_
  refine lv_topi (fun v1534 e1534 => ?_)
  refine lv_aload_n hx hb dL_law_1535 rfl (lv_at hl 0 rfl) ?_
  refine lv_iload hx hb dL_law_1536 (lv_at hl 4 rfl) ?_
  refine lv_iconst (v := 3) hx hb dL_law_1538 (by decide) ?_
  refine lv_iadd hx hb dL_law_1539 ?_
  refine lv_topi (fun v1539 e1539 => ?_)
  have i1539 : v1539.toInt = i.toInt + 3 := zadd e1539 rfl (by decide) (by omega) (by omega)
  refine va_sld hx hb hX hbl hbA hS (vp_in_iff.mpr ⟨by omega, by omega⟩) dL_law_1540 ?_
  refine lv_topi (fun v1540 e1540 => ?_)
  refine k_X10_heads (rest := []) hcf hK3 hV hC hO hP hD hS (fun _ h => h) hl.1 (Nat.le_of_ble_eq_true rfl) (by show k + 0 ≤ 601024; omega) (by show n + 0 ≤ 7293034; omega) dL_law_1541 (fun v1541 C H locs hv1 hC hP hD hS => ?_)
  refine lv_pop hx hb dL_law_1544 rfl ?_
  refine lv_aload_n hx hb dL_law_1545 rfl (lv_at hl 2 rfl) ?_
  refine lv_aload_n hx hb dL_law_1546 rfl (lv_at hl 0 rfl) ?_
  refine lv_iload hx hb dL_law_1547 (lv_at hl 4 rfl) ?_
  refine lv_iconst (v := 1) hx hb dL_law_1549 (by decide) ?_
  refine lv_iadd hx hb dL_law_1550 ?_
  refine lv_topi (fun v1550 e1550 => ?_)
  have i1550 : v1550.toInt = i.toInt + 1 := zadd e1550 rfl (by decide) (by omega) (by omega)
  refine va_sld hx hb hX hbl hbA hS (vp_in_iff.mpr ⟨by omega, by omega⟩) dL_law_1551 ?_
  refine lv_topi (fun v1551 e1551 => ?_)
  refine lv_aload_n hx hb dL_law_1552 rfl (lv_at hl 0 rfl) ?_
  refine lv_iload hx hb dL_law_1553 (lv_at hl 4 rfl) ?_
  refine lv_iconst (v := 2) hx hb dL_law_1555 (by decide) ?_
  refine lv_iadd hx hb dL_law_1556 ?_
  refine lv_topi (fun v1556 e1556 => ?_)
  have i1556 : v1556.toInt = i.toInt + 2 := zadd e1556 rfl (by decide) (by omega) (by omega)
  refine va_sld hx hb hX hbl hbA hS (vp_in_iff.mpr ⟨by omega, by omega⟩) dL_law_1557 ?_
  refine lv_topi (fun v1557 e1557 => ?_)
  refine lv_aload_n hx hb dL_law_1558 rfl (lv_at hl 0 rfl) ?_
  refine lv_iload hx hb dL_law_1559 (lv_at hl 4 rfl) ?_
  refine lv_iconst (v := 3) hx hb dL_law_1561 (by decide) ?_
  refine lv_iadd hx hb dL_law_1562 ?_
  refine lv_topi (fun v1562 e1562 => ?_)
  have i1562 : v1562.toInt = i.toInt + 3 := zadd e1562 rfl (by decide) (by omega) (by omega)
  refine va_sld hx hb hX hbl hbA hS (vp_in_iff.mpr ⟨by omega, by omega⟩) dL_law_1563 ?_
  refine lv_topi (fun v1563 e1563 => ?_)
  have hP := zRotP hP
  have hD := zRotD hD
  refine k_X11_heads (rest := []) hcf hK3 hV hR hO hP hD hS (fun _ h => h) hl.1 (Nat.le_of_ble_eq_true rfl) (by show k + 0 ≤ 601024; omega) (by show n + 0 ≤ 7293034; omega) dL_law_1564 (fun v1564 Rr H locs hv2 hR hP hD hS => ?_)
  have hP := zRotP' hP
  have hD := zRotD' hD
  have ev0 : v1551 = v1528 := by rw [e1551, e1528, e1550, e1527]
  rw [ev0] at hv2
  have ev1 : v1557 = v1534 := by rw [e1557, e1534, e1556, e1533]
  rw [ev1] at hv2
  have ev2 : v1563 = v1540 := by rw [e1563, e1540, e1562, e1539]
  rw [ev2] at hv2
  have er : v1541.toInt = v1564.toInt := congrArg Int32.toInt (hv1.trans hv2.symm)
  refine lv_pop hx hb dL_law_1567 rfl ?_
  refine lv_goto (tgt := 1797) hx hb dL_law_1568 (by decide) ?_
  refine W.widen (k := k + 3) (n := n + 300) (by omega) (by omega) ?_
  exact J _ C Rr fo H locs ls hO hC hR hP hD hS (lv_sub hl [0, 1, 2, 3, 4] rfl)
set_option maxHeartbeats 4000000 in
set_option maxRecDepth 100000 in
theorem law_case_38 {p : Program} {l : Launch} {e : Env} {s : State} {m : MethodId} {below : List Frame} {meth : Method} {c : Code} {b L : Nat} {xs : Nat → Int32} {dC : Nat → ClassId} {dI : Nat → Nat → Nat} {cI cJ cQ : ClassId} {x0 m0 o0 : Nat} (hl0 : l.stackTraces = false) (C0 : lw_At p s m meth c b L xs) (hK3 : va_K (dC, dI) vwCl [(cI, .int), (cJ, .long), (cQ, .object "NinePortraits$Law")] s) (hV : zV (fun q : Nat => s.heap.size ≤ q) s) (hG : zG (fun q : Nat => s.heap.size ≤ q) s) (hCa : zCa s) (hL : L ≤ 3584) {sg : zSy} {C Rr : va_W} {fo : Nat → Int64} {i : Int32} {H : Heap} {locs : List Loc} {ls : Array Slot} {k n : Nat} (hO : zOkG sg) (hC : zCi cI cJ cQ x0 sg C) (hR : zRi cI m0 sg Rr) (hP : va_P (dC, dI) vwCl (C ++ ((o0, .inl (cJ, 1, .inr (.inl fo))) :: Rr)) H) (hD : va_D (fun q : Nat => s.heap.size ≤ q) (C ++ ((o0, .inl (cJ, 1, .inr (.inl fo))) :: Rr))) (hS : va_S (fun q : Nat => s.heap.size ≤ q) s.heap H locs) (hl : lv_has ls 7 [(0, .ref b), (1, .ref x0), (2, .ref m0), (3, .ref o0), (4, .int i)]) (hi0 : 0 ≤ i.toInt) (hiL : i.toInt + 7 ≤ (L : Int)) (hk : k + 3 ≤ 601024) (hn : n + 300 ≤ 7293034) (J : ∀ (sg : zSy) (C Rr : va_W) (fo : Nat → Int64) (H : Heap) (locs : List Loc) (ls : Array Slot), zOkG sg → zCi cI cJ cQ x0 sg C → zRi cI m0 sg Rr → va_P (dC, dI) vwCl (C ++ ((o0, .inl (cJ, 1, .inr (.inl fo))) :: Rr)) H → va_D (fun q : Nat => s.heap.size ≤ q) (C ++ ((o0, .inl (cJ, 1, .inr (.inl fo))) :: Rr)) → va_S (fun q : Nat => s.heap.size ≤ q) s.heap H locs → lv_has ls 7 [(0, .ref b), (1, .ref x0), (2, .ref m0), (3, .ref o0), (4, .int i)] → W p l e room_1 s m #[Value.ref b] below meth c H locs (k + 3) (n + 300) (lw_Z below #[Value.ref b] s) (F0 m 1797 ls [])) : W p l e room_1 s m #[Value.ref b] below meth c H locs k n (lw_Z below #[Value.ref b] s) (F0 m 1571 ls []) := by
  obtain ⟨hx, hb, hr, hml, hown, hts0, hX, hbl, hlocks, hgv⟩ := id C0
  have hts : ∀ w ∈ wA, w.before #[Value.ref b] s = true := fun w h => hts0 w (List.mem_filter.mp h).1
  have hown : s.vm.findClass RL = some m.cls := hown
  have hcf : CallFix p m c code 7 s #[Value.ref b] wA RL := ⟨hx, hb, hml, hown, hts⟩
  have hbA : ¬ (fun q : Nat => s.heap.size ≤ q) b := Nat.not_le.mpr hbl
  refine lv_aload_n hx hb dL_law_1571 rfl (lv_at hl 1 rfl) ?_
  refine lv_aload_n hx hb dL_law_1572 rfl (lv_at hl 0 rfl) ?_
  refine lv_iload hx hb dL_law_1573 (lv_at hl 4 rfl) ?_
  refine lv_iconst (v := 1) hx hb dL_law_1575 (by decide) ?_
  refine lv_iadd hx hb dL_law_1576 ?_
  refine lv_topi (fun v1576 e1576 => ?_)
  have i1576 : v1576.toInt = i.toInt + 1 := zadd e1576 rfl (by decide) (by omega) (by omega)
  refine va_sld hx hb hX hbl hbA hS (vp_in_iff.mpr ⟨by omega, by omega⟩) dL_law_1577 ?_
  refine lv_topi (fun v1577 e1577 => ?_)
  refine k_X10_matched (rest := []) hcf hK3 hV hC hO hP hD hS (fun _ h => h) hl.1 (Nat.le_of_ble_eq_true rfl) (by show k + 0 ≤ 601024; omega) (by show n + 0 ≤ 7293034; omega) dL_law_1578 (fun v1578 C H locs hv1 hC hP hD hS => ?_)
  refine lv_pop hx hb dL_law_1581 rfl ?_
  refine lv_aload_n hx hb dL_law_1582 rfl (lv_at hl 2 rfl) ?_
  refine lv_aload_n hx hb dL_law_1583 rfl (lv_at hl 0 rfl) ?_
  refine lv_iload hx hb dL_law_1584 (lv_at hl 4 rfl) ?_
  refine lv_iconst (v := 1) hx hb dL_law_1586 (by decide) ?_
  refine lv_iadd hx hb dL_law_1587 ?_
  refine lv_topi (fun v1587 e1587 => ?_)
  have i1587 : v1587.toInt = i.toInt + 1 := zadd e1587 rfl (by decide) (by omega) (by omega)
  refine va_sld hx hb hX hbl hbA hS (vp_in_iff.mpr ⟨by omega, by omega⟩) dL_law_1588 ?_
  refine lv_topi (fun v1588 e1588 => ?_)
  have hP := zRotP hP
  have hD := zRotD hD
  refine k_X11_matched (rest := []) hcf hK3 hV hR hO hP hD hS (fun _ h => h) hl.1 (Nat.le_of_ble_eq_true rfl) (by show k + 0 ≤ 601024; omega) (by show n + 0 ≤ 7293034; omega) dL_law_1589 (fun v1589 Rr H locs hv2 hR hP hD hS => ?_)
  have hP := zRotP' hP
  have hD := zRotD' hD
  have ev0 : v1588 = v1577 := by rw [e1588, e1577, e1587, e1576]
  rw [ev0] at hv2
  have er : v1578.toInt = v1589.toInt := hv1.trans hv2.symm
  refine lv_pop hx hb dL_law_1592 rfl ?_
  refine lv_goto (tgt := 1797) hx hb dL_law_1593 (by decide) ?_
  refine W.widen (k := k + 3) (n := n + 300) (by omega) (by omega) ?_
  exact J _ C Rr fo H locs ls hO hC hR hP hD hS (lv_sub hl [0, 1, 2, 3, 4] rfl)
set_option maxHeartbeats 4000000 in
set_option maxRecDepth 100000 in
theorem law_case_39 {p : Program} {l : Launch} {e : Env} {s : State} {m : MethodId} {below : List Frame} {meth : Method} {c : Code} {b L : Nat} {xs : Nat → Int32} {dC : Nat → ClassId} {dI : Nat → Nat → Nat} {cI cJ cQ : ClassId} {x0 m0 o0 : Nat} (hl0 : l.stackTraces = false) (C0 : lw_At p s m meth c b L xs) (hK3 : va_K (dC, dI) vwCl [(cI, .int), (cJ, .long), (cQ, .object "NinePortraits$Law")] s) (hV : zV (fun q : Nat => s.heap.size ≤ q) s) (hG : zG (fun q : Nat => s.heap.size ≤ q) s) (hCa : zCa s) (hL : L ≤ 3584) {sg : zSy} {C Rr : va_W} {fo : Nat → Int64} {i : Int32} {H : Heap} {locs : List Loc} {ls : Array Slot} {k n : Nat} (hO : zOkG sg) (hC : zCi cI cJ cQ x0 sg C) (hR : zRi cI m0 sg Rr) (hP : va_P (dC, dI) vwCl (C ++ ((o0, .inl (cJ, 1, .inr (.inl fo))) :: Rr)) H) (hD : va_D (fun q : Nat => s.heap.size ≤ q) (C ++ ((o0, .inl (cJ, 1, .inr (.inl fo))) :: Rr))) (hS : va_S (fun q : Nat => s.heap.size ≤ q) s.heap H locs) (hl : lv_has ls 7 [(0, .ref b), (1, .ref x0), (2, .ref m0), (3, .ref o0), (4, .int i)]) (hi0 : 0 ≤ i.toInt) (hiL : i.toInt + 7 ≤ (L : Int)) (hk : k + 3 ≤ 601024) (hn : n + 300 ≤ 7293034) (J : ∀ (sg : zSy) (C Rr : va_W) (fo : Nat → Int64) (H : Heap) (locs : List Loc) (ls : Array Slot), zOkG sg → zCi cI cJ cQ x0 sg C → zRi cI m0 sg Rr → va_P (dC, dI) vwCl (C ++ ((o0, .inl (cJ, 1, .inr (.inl fo))) :: Rr)) H → va_D (fun q : Nat => s.heap.size ≤ q) (C ++ ((o0, .inl (cJ, 1, .inr (.inl fo))) :: Rr)) → va_S (fun q : Nat => s.heap.size ≤ q) s.heap H locs → lv_has ls 7 [(0, .ref b), (1, .ref x0), (2, .ref m0), (3, .ref o0), (4, .int i)] → W p l e room_1 s m #[Value.ref b] below meth c H locs (k + 3) (n + 300) (lw_Z below #[Value.ref b] s) (F0 m 1797 ls [])) : W p l e room_1 s m #[Value.ref b] below meth c H locs k n (lw_Z below #[Value.ref b] s) (F0 m 1596 ls []) := by
  obtain ⟨hx, hb, hr, hml, hown, hts0, hX, hbl, hlocks, hgv⟩ := id C0
  have hts : ∀ w ∈ wA, w.before #[Value.ref b] s = true := fun w h => hts0 w (List.mem_filter.mp h).1
  have hown : s.vm.findClass RL = some m.cls := hown
  have hcf : CallFix p m c code 7 s #[Value.ref b] wA RL := ⟨hx, hb, hml, hown, hts⟩
  have hbA : ¬ (fun q : Nat => s.heap.size ≤ q) b := Nat.not_le.mpr hbl
  refine lv_aload_n hx hb dL_law_1596 rfl (lv_at hl 1 rfl) ?_
  refine lv_aload_n hx hb dL_law_1597 rfl (lv_at hl 0 rfl) ?_
  refine lv_iload hx hb dL_law_1598 (lv_at hl 4 rfl) ?_
  refine lv_iconst (v := 1) hx hb dL_law_1600 (by decide) ?_
  refine lv_iadd hx hb dL_law_1601 ?_
  refine lv_topi (fun v1601 e1601 => ?_)
  have i1601 : v1601.toInt = i.toInt + 1 := zadd e1601 rfl (by decide) (by omega) (by omega)
  refine va_sld hx hb hX hbl hbA hS (vp_in_iff.mpr ⟨by omega, by omega⟩) dL_law_1602 ?_
  refine lv_topi (fun v1602 e1602 => ?_)
  refine k_X10_most (rest := []) hcf hK3 hV hC hO hP hD hS (fun _ h => h) hl.1 (Nat.le_of_ble_eq_true rfl) (by show k + 0 ≤ 601024; omega) (by show n + 0 ≤ 7293034; omega) dL_law_1603 (fun v1603 C H locs hv1 hC hP hD hS => ?_)
  refine lv_pop hx hb dL_law_1606 rfl ?_
  refine lv_aload_n hx hb dL_law_1607 rfl (lv_at hl 2 rfl) ?_
  refine lv_aload_n hx hb dL_law_1608 rfl (lv_at hl 0 rfl) ?_
  refine lv_iload hx hb dL_law_1609 (lv_at hl 4 rfl) ?_
  refine lv_iconst (v := 1) hx hb dL_law_1611 (by decide) ?_
  refine lv_iadd hx hb dL_law_1612 ?_
  refine lv_topi (fun v1612 e1612 => ?_)
  have i1612 : v1612.toInt = i.toInt + 1 := zadd e1612 rfl (by decide) (by omega) (by omega)
  refine va_sld hx hb hX hbl hbA hS (vp_in_iff.mpr ⟨by omega, by omega⟩) dL_law_1613 ?_
  refine lv_topi (fun v1613 e1613 => ?_)
  have hP := zRotP hP
  have hD := zRotD hD
  refine k_X11_most (rest := []) hcf hK3 hV hR hO hP hD hS (fun _ h => h) hl.1 (Nat.le_of_ble_eq_true rfl) (by show k + 0 ≤ 601024; omega) (by show n + 0 ≤ 7293034; omega) dL_law_1614 (fun v1614 Rr H locs hv2 hR hP hD hS => ?_)
  have hP := zRotP' hP
  have hD := zRotD' hD
  have ev0 : v1613 = v1602 := by rw [e1613, e1602, e1612, e1601]
  rw [ev0] at hv2
  have er : v1603.toInt = v1614.toInt := congrArg Int32.toInt (hv1.trans hv2.symm)
  refine lv_pop hx hb dL_law_1617 rfl ?_
  refine lv_goto (tgt := 1797) hx hb dL_law_1618 (by decide) ?_
  refine W.widen (k := k + 3) (n := n + 300) (by omega) (by omega) ?_
  exact J _ C Rr fo H locs ls hO hC hR hP hD hS (lv_sub hl [0, 1, 2, 3, 4] rfl)
set_option maxHeartbeats 4000000 in
set_option maxRecDepth 100000 in
theorem law_case_40 {p : Program} {l : Launch} {e : Env} {s : State} {m : MethodId} {below : List Frame} {meth : Method} {c : Code} {b L : Nat} {xs : Nat → Int32} {dC : Nat → ClassId} {dI : Nat → Nat → Nat} {cI cJ cQ : ClassId} {x0 m0 o0 : Nat} (hl0 : l.stackTraces = false) (C0 : lw_At p s m meth c b L xs) (hK3 : va_K (dC, dI) vwCl [(cI, .int), (cJ, .long), (cQ, .object "NinePortraits$Law")] s) (hV : zV (fun q : Nat => s.heap.size ≤ q) s) (hG : zG (fun q : Nat => s.heap.size ≤ q) s) (hCa : zCa s) (hL : L ≤ 3584) {sg : zSy} {C Rr : va_W} {fo : Nat → Int64} {i : Int32} {H : Heap} {locs : List Loc} {ls : Array Slot} {k n : Nat} (hO : zOkG sg) (hC : zCi cI cJ cQ x0 sg C) (hR : zRi cI m0 sg Rr) (hP : va_P (dC, dI) vwCl (C ++ ((o0, .inl (cJ, 1, .inr (.inl fo))) :: Rr)) H) (hD : va_D (fun q : Nat => s.heap.size ≤ q) (C ++ ((o0, .inl (cJ, 1, .inr (.inl fo))) :: Rr))) (hS : va_S (fun q : Nat => s.heap.size ≤ q) s.heap H locs) (hl : lv_has ls 7 [(0, .ref b), (1, .ref x0), (2, .ref m0), (3, .ref o0), (4, .int i)]) (hi0 : 0 ≤ i.toInt) (hiL : i.toInt + 7 ≤ (L : Int)) (hk : k + 3 ≤ 601024) (hn : n + 300 ≤ 7293034) (J : ∀ (sg : zSy) (C Rr : va_W) (fo : Nat → Int64) (H : Heap) (locs : List Loc) (ls : Array Slot), zOkG sg → zCi cI cJ cQ x0 sg C → zRi cI m0 sg Rr → va_P (dC, dI) vwCl (C ++ ((o0, .inl (cJ, 1, .inr (.inl fo))) :: Rr)) H → va_D (fun q : Nat => s.heap.size ≤ q) (C ++ ((o0, .inl (cJ, 1, .inr (.inl fo))) :: Rr)) → va_S (fun q : Nat => s.heap.size ≤ q) s.heap H locs → lv_has ls 7 [(0, .ref b), (1, .ref x0), (2, .ref m0), (3, .ref o0), (4, .int i)] → W p l e room_1 s m #[Value.ref b] below meth c H locs (k + 3) (n + 300) (lw_Z below #[Value.ref b] s) (F0 m 1797 ls [])) : W p l e room_1 s m #[Value.ref b] below meth c H locs k n (lw_Z below #[Value.ref b] s) (F0 m 1621 ls []) := by
  obtain ⟨hx, hb, hr, hml, hown, hts0, hX, hbl, hlocks, hgv⟩ := id C0
  have hts : ∀ w ∈ wA, w.before #[Value.ref b] s = true := fun w h => hts0 w (List.mem_filter.mp h).1
  have hown : s.vm.findClass RL = some m.cls := hown
  have hcf : CallFix p m c code 7 s #[Value.ref b] wA RL := ⟨hx, hb, hml, hown, hts⟩
  have hbA : ¬ (fun q : Nat => s.heap.size ≤ q) b := Nat.not_le.mpr hbl
  refine lv_aload_n hx hb dL_law_1621 rfl (lv_at hl 1 rfl) ?_
  refine lv_aload_n hx hb dL_law_1622 rfl (lv_at hl 0 rfl) ?_
  refine lv_iload hx hb dL_law_1623 (lv_at hl 4 rfl) ?_
  refine lv_iconst (v := 1) hx hb dL_law_1625 (by decide) ?_
  refine lv_iadd hx hb dL_law_1626 ?_
  refine lv_topi (fun v1626 e1626 => ?_)
  have i1626 : v1626.toInt = i.toInt + 1 := zadd e1626 rfl (by decide) (by omega) (by omega)
  refine va_sld hx hb hX hbl hbA hS (vp_in_iff.mpr ⟨by omega, by omega⟩) dL_law_1627 ?_
  refine lv_topi (fun v1627 e1627 => ?_)
  refine k_X10_seen (rest := []) hcf hK3 hV hC hO hP hD hS (fun _ h => h) hl.1 (Nat.le_of_ble_eq_true rfl) (by show k + 0 ≤ 601024; omega) (by show n + 0 ≤ 7293034; omega) dL_law_1628 (fun v1628 C H locs hv1 hC hP hD hS => ?_)
  refine lv_pop hx hb dL_law_1631 rfl ?_
  refine lv_aload_n hx hb dL_law_1632 rfl (lv_at hl 2 rfl) ?_
  refine lv_aload_n hx hb dL_law_1633 rfl (lv_at hl 0 rfl) ?_
  refine lv_iload hx hb dL_law_1634 (lv_at hl 4 rfl) ?_
  refine lv_iconst (v := 1) hx hb dL_law_1636 (by decide) ?_
  refine lv_iadd hx hb dL_law_1637 ?_
  refine lv_topi (fun v1637 e1637 => ?_)
  have i1637 : v1637.toInt = i.toInt + 1 := zadd e1637 rfl (by decide) (by omega) (by omega)
  refine va_sld hx hb hX hbl hbA hS (vp_in_iff.mpr ⟨by omega, by omega⟩) dL_law_1638 ?_
  refine lv_topi (fun v1638 e1638 => ?_)
  have hP := zRotP hP
  have hD := zRotD hD
  refine k_X11_seen (rest := []) hcf hK3 hV hR hO hP hD hS (fun _ h => h) hl.1 (Nat.le_of_ble_eq_true rfl) (by show k + 0 ≤ 601024; omega) (by show n + 0 ≤ 7293034; omega) dL_law_1639 (fun v1639 Rr H locs hv2 hR hP hD hS => ?_)
  have hP := zRotP' hP
  have hD := zRotD' hD
  have ev0 : v1638 = v1627 := by rw [e1638, e1627, e1637, e1626]
  rw [ev0] at hv2
  have er : v1628.toInt = v1639.toInt := congrArg Int32.toInt (hv1.trans hv2.symm)
  refine lv_pop hx hb dL_law_1642 rfl ?_
  refine lv_goto (tgt := 1797) hx hb dL_law_1643 (by decide) ?_
  refine W.widen (k := k + 3) (n := n + 300) (by omega) (by omega) ?_
  exact J _ C Rr fo H locs ls hO hC hR hP hD hS (lv_sub hl [0, 1, 2, 3, 4] rfl)
set_option maxHeartbeats 4000000 in
set_option maxRecDepth 100000 in
theorem law_case_41 {p : Program} {l : Launch} {e : Env} {s : State} {m : MethodId} {below : List Frame} {meth : Method} {c : Code} {b L : Nat} {xs : Nat → Int32} {dC : Nat → ClassId} {dI : Nat → Nat → Nat} {cI cJ cQ : ClassId} {x0 m0 o0 : Nat} (hl0 : l.stackTraces = false) (C0 : lw_At p s m meth c b L xs) (hK3 : va_K (dC, dI) vwCl [(cI, .int), (cJ, .long), (cQ, .object "NinePortraits$Law")] s) (hV : zV (fun q : Nat => s.heap.size ≤ q) s) (hG : zG (fun q : Nat => s.heap.size ≤ q) s) (hCa : zCa s) (hL : L ≤ 3584) {sg : zSy} {C Rr : va_W} {fo : Nat → Int64} {i : Int32} {H : Heap} {locs : List Loc} {ls : Array Slot} {k n : Nat} (hO : zOkG sg) (hC : zCi cI cJ cQ x0 sg C) (hR : zRi cI m0 sg Rr) (hP : va_P (dC, dI) vwCl (C ++ ((o0, .inl (cJ, 1, .inr (.inl fo))) :: Rr)) H) (hD : va_D (fun q : Nat => s.heap.size ≤ q) (C ++ ((o0, .inl (cJ, 1, .inr (.inl fo))) :: Rr))) (hS : va_S (fun q : Nat => s.heap.size ≤ q) s.heap H locs) (hl : lv_has ls 7 [(0, .ref b), (1, .ref x0), (2, .ref m0), (3, .ref o0), (4, .int i)]) (hi0 : 0 ≤ i.toInt) (hiL : i.toInt + 7 ≤ (L : Int)) (hk : k + 3 ≤ 601024) (hn : n + 300 ≤ 7293034) (J : ∀ (sg : zSy) (C Rr : va_W) (fo : Nat → Int64) (H : Heap) (locs : List Loc) (ls : Array Slot), zOkG sg → zCi cI cJ cQ x0 sg C → zRi cI m0 sg Rr → va_P (dC, dI) vwCl (C ++ ((o0, .inl (cJ, 1, .inr (.inl fo))) :: Rr)) H → va_D (fun q : Nat => s.heap.size ≤ q) (C ++ ((o0, .inl (cJ, 1, .inr (.inl fo))) :: Rr)) → va_S (fun q : Nat => s.heap.size ≤ q) s.heap H locs → lv_has ls 7 [(0, .ref b), (1, .ref x0), (2, .ref m0), (3, .ref o0), (4, .int i)] → W p l e room_1 s m #[Value.ref b] below meth c H locs (k + 3) (n + 300) (lw_Z below #[Value.ref b] s) (F0 m 1797 ls [])) : W p l e room_1 s m #[Value.ref b] below meth c H locs k n (lw_Z below #[Value.ref b] s) (F0 m 1646 ls []) := by
  obtain ⟨hx, hb, hr, hml, hown, hts0, hX, hbl, hlocks, hgv⟩ := id C0
  have hts : ∀ w ∈ wA, w.before #[Value.ref b] s = true := fun w h => hts0 w (List.mem_filter.mp h).1
  have hown : s.vm.findClass RL = some m.cls := hown
  have hcf : CallFix p m c code 7 s #[Value.ref b] wA RL := ⟨hx, hb, hml, hown, hts⟩
  have hbA : ¬ (fun q : Nat => s.heap.size ≤ q) b := Nat.not_le.mpr hbl
  refine lv_aload_n hx hb dL_law_1646 rfl (lv_at hl 1 rfl) ?_
  refine lv_aload_n hx hb dL_law_1647 rfl (lv_at hl 0 rfl) ?_
  refine lv_iload hx hb dL_law_1648 (lv_at hl 4 rfl) ?_
  refine lv_iconst (v := 1) hx hb dL_law_1650 (by decide) ?_
  refine lv_iadd hx hb dL_law_1651 ?_
  refine lv_topi (fun v1651 e1651 => ?_)
  have i1651 : v1651.toInt = i.toInt + 1 := zadd e1651 rfl (by decide) (by omega) (by omega)
  refine va_sld hx hb hX hbl hbA hS (vp_in_iff.mpr ⟨by omega, by omega⟩) dL_law_1652 ?_
  refine lv_topi (fun v1652 e1652 => ?_)
  refine k_X10_saves (rest := []) hcf hK3 hV hC hO hP hD hS (fun _ h => h) hl.1 (Nat.le_of_ble_eq_true rfl) (by show k + 0 ≤ 601024; omega) (by show n + 0 ≤ 7293034; omega) dL_law_1653 (fun v1653 C H locs hv1 hC hP hD hS => ?_)
  refine lv_pop hx hb dL_law_1656 rfl ?_
  refine lv_aload_n hx hb dL_law_1657 rfl (lv_at hl 2 rfl) ?_
  refine lv_aload_n hx hb dL_law_1658 rfl (lv_at hl 0 rfl) ?_
  refine lv_iload hx hb dL_law_1659 (lv_at hl 4 rfl) ?_
  refine lv_iconst (v := 1) hx hb dL_law_1661 (by decide) ?_
  refine lv_iadd hx hb dL_law_1662 ?_
  refine lv_topi (fun v1662 e1662 => ?_)
  have i1662 : v1662.toInt = i.toInt + 1 := zadd e1662 rfl (by decide) (by omega) (by omega)
  refine va_sld hx hb hX hbl hbA hS (vp_in_iff.mpr ⟨by omega, by omega⟩) dL_law_1663 ?_
  refine lv_topi (fun v1663 e1663 => ?_)
  have hP := zRotP hP
  have hD := zRotD hD
  refine k_X11_saves (rest := []) hcf hK3 hV hR hO hP hD hS (fun _ h => h) hl.1 (Nat.le_of_ble_eq_true rfl) (by show k + 0 ≤ 601024; omega) (by show n + 0 ≤ 7293034; omega) dL_law_1664 (fun v1664 Rr H locs hv2 hR hP hD hS => ?_)
  have hP := zRotP' hP
  have hD := zRotD' hD
  have ev0 : v1663 = v1652 := by rw [e1663, e1652, e1662, e1651]
  rw [ev0] at hv2
  have er : v1653.toInt = v1664.toInt := congrArg Int32.toInt (hv1.trans hv2.symm)
  refine lv_pop hx hb dL_law_1667 rfl ?_
  refine lv_goto (tgt := 1797) hx hb dL_law_1668 (by decide) ?_
  refine W.widen (k := k + 3) (n := n + 300) (by omega) (by omega) ?_
  exact J _ C Rr fo H locs ls hO hC hR hP hD hS (lv_sub hl [0, 1, 2, 3, 4] rfl)
set_option maxHeartbeats 4000000 in
set_option maxRecDepth 100000 in
theorem law_case_42 {p : Program} {l : Launch} {e : Env} {s : State} {m : MethodId} {below : List Frame} {meth : Method} {c : Code} {b L : Nat} {xs : Nat → Int32} {dC : Nat → ClassId} {dI : Nat → Nat → Nat} {cI cJ cQ : ClassId} {x0 m0 o0 : Nat} (hl0 : l.stackTraces = false) (C0 : lw_At p s m meth c b L xs) (hK3 : va_K (dC, dI) vwCl [(cI, .int), (cJ, .long), (cQ, .object "NinePortraits$Law")] s) (hV : zV (fun q : Nat => s.heap.size ≤ q) s) (hG : zG (fun q : Nat => s.heap.size ≤ q) s) (hCa : zCa s) (hL : L ≤ 3584) {sg : zSy} {C Rr : va_W} {fo : Nat → Int64} {i : Int32} {H : Heap} {locs : List Loc} {ls : Array Slot} {k n : Nat} (hO : zOkG sg) (hC : zCi cI cJ cQ x0 sg C) (hR : zRi cI m0 sg Rr) (hP : va_P (dC, dI) vwCl (C ++ ((o0, .inl (cJ, 1, .inr (.inl fo))) :: Rr)) H) (hD : va_D (fun q : Nat => s.heap.size ≤ q) (C ++ ((o0, .inl (cJ, 1, .inr (.inl fo))) :: Rr))) (hS : va_S (fun q : Nat => s.heap.size ≤ q) s.heap H locs) (hl : lv_has ls 7 [(0, .ref b), (1, .ref x0), (2, .ref m0), (3, .ref o0), (4, .int i)]) (hi0 : 0 ≤ i.toInt) (hiL : i.toInt + 7 ≤ (L : Int)) (hk : k + 3 ≤ 601024) (hn : n + 300 ≤ 7293034) (J : ∀ (sg : zSy) (C Rr : va_W) (fo : Nat → Int64) (H : Heap) (locs : List Loc) (ls : Array Slot), zOkG sg → zCi cI cJ cQ x0 sg C → zRi cI m0 sg Rr → va_P (dC, dI) vwCl (C ++ ((o0, .inl (cJ, 1, .inr (.inl fo))) :: Rr)) H → va_D (fun q : Nat => s.heap.size ≤ q) (C ++ ((o0, .inl (cJ, 1, .inr (.inl fo))) :: Rr)) → va_S (fun q : Nat => s.heap.size ≤ q) s.heap H locs → lv_has ls 7 [(0, .ref b), (1, .ref x0), (2, .ref m0), (3, .ref o0), (4, .int i)] → W p l e room_1 s m #[Value.ref b] below meth c H locs (k + 3) (n + 300) (lw_Z below #[Value.ref b] s) (F0 m 1797 ls [])) : W p l e room_1 s m #[Value.ref b] below meth c H locs k n (lw_Z below #[Value.ref b] s) (F0 m 1671 ls []) := by
  obtain ⟨hx, hb, hr, hml, hown, hts0, hX, hbl, hlocks, hgv⟩ := id C0
  have hts : ∀ w ∈ wA, w.before #[Value.ref b] s = true := fun w h => hts0 w (List.mem_filter.mp h).1
  have hown : s.vm.findClass RL = some m.cls := hown
  have hcf : CallFix p m c code 7 s #[Value.ref b] wA RL := ⟨hx, hb, hml, hown, hts⟩
  have hbA : ¬ (fun q : Nat => s.heap.size ≤ q) b := Nat.not_le.mpr hbl
  refine lv_aload_n hx hb dL_law_1671 rfl (lv_at hl 1 rfl) ?_
  refine lv_aload_n hx hb dL_law_1672 rfl (lv_at hl 0 rfl) ?_
  refine lv_iload hx hb dL_law_1673 (lv_at hl 4 rfl) ?_
  refine lv_iconst (v := 1) hx hb dL_law_1675 (by decide) ?_
  refine lv_iadd hx hb dL_law_1676 ?_
  refine lv_topi (fun v1676 e1676 => ?_)
  have i1676 : v1676.toInt = i.toInt + 1 := zadd e1676 rfl (by decide) (by omega) (by omega)
  refine va_sld hx hb hX hbl hbA hS (vp_in_iff.mpr ⟨by omega, by omega⟩) dL_law_1677 ?_
  refine lv_topi (fun v1677 e1677 => ?_)
  refine k_X10_rivals (rest := []) hcf hK3 hV hC hO hP hD hS (fun _ h => h) hl.1 (Nat.le_of_ble_eq_true rfl) (by show k + 0 ≤ 601024; omega) (by show n + 0 ≤ 7293034; omega) dL_law_1678 (fun v1678 C H locs hv1 hC hP hD hS => ?_)
  refine lv_pop hx hb dL_law_1681 rfl ?_
  refine lv_aload_n hx hb dL_law_1682 rfl (lv_at hl 2 rfl) ?_
  refine lv_aload_n hx hb dL_law_1683 rfl (lv_at hl 0 rfl) ?_
  refine lv_iload hx hb dL_law_1684 (lv_at hl 4 rfl) ?_
  refine lv_iconst (v := 1) hx hb dL_law_1686 (by decide) ?_
  refine lv_iadd hx hb dL_law_1687 ?_
  refine lv_topi (fun v1687 e1687 => ?_)
  have i1687 : v1687.toInt = i.toInt + 1 := zadd e1687 rfl (by decide) (by omega) (by omega)
  refine va_sld hx hb hX hbl hbA hS (vp_in_iff.mpr ⟨by omega, by omega⟩) dL_law_1688 ?_
  refine lv_topi (fun v1688 e1688 => ?_)
  have hP := zRotP hP
  have hD := zRotD hD
  refine k_X11_rivals (rest := []) hcf hK3 hV hR hO hP hD hS (fun _ h => h) hl.1 (Nat.le_of_ble_eq_true rfl) (by show k + 0 ≤ 601024; omega) (by show n + 0 ≤ 7293034; omega) dL_law_1689 (fun v1689 Rr H locs hv2 hR hP hD hS => ?_)
  have hP := zRotP' hP
  have hD := zRotD' hD
  have ev0 : v1688 = v1677 := by rw [e1688, e1677, e1687, e1676]
  rw [ev0] at hv2
  have er : v1678.toInt = v1689.toInt := congrArg Int32.toInt (hv1.trans hv2.symm)
  refine lv_pop hx hb dL_law_1692 rfl ?_
  refine lv_goto (tgt := 1797) hx hb dL_law_1693 (by decide) ?_
  refine W.widen (k := k + 3) (n := n + 300) (by omega) (by omega) ?_
  exact J _ C Rr fo H locs ls hO hC hR hP hD hS (lv_sub hl [0, 1, 2, 3, 4] rfl)
set_option maxHeartbeats 4000000 in
set_option maxRecDepth 100000 in
theorem law_case_43 {p : Program} {l : Launch} {e : Env} {s : State} {m : MethodId} {below : List Frame} {meth : Method} {c : Code} {b L : Nat} {xs : Nat → Int32} {dC : Nat → ClassId} {dI : Nat → Nat → Nat} {cI cJ cQ : ClassId} {x0 m0 o0 : Nat} (hl0 : l.stackTraces = false) (C0 : lw_At p s m meth c b L xs) (hK3 : va_K (dC, dI) vwCl [(cI, .int), (cJ, .long), (cQ, .object "NinePortraits$Law")] s) (hV : zV (fun q : Nat => s.heap.size ≤ q) s) (hG : zG (fun q : Nat => s.heap.size ≤ q) s) (hCa : zCa s) (hL : L ≤ 3584) {sg : zSy} {C Rr : va_W} {fo : Nat → Int64} {i : Int32} {H : Heap} {locs : List Loc} {ls : Array Slot} {k n : Nat} (hO : zOkG sg) (hC : zCi cI cJ cQ x0 sg C) (hR : zRi cI m0 sg Rr) (hP : va_P (dC, dI) vwCl (C ++ ((o0, .inl (cJ, 1, .inr (.inl fo))) :: Rr)) H) (hD : va_D (fun q : Nat => s.heap.size ≤ q) (C ++ ((o0, .inl (cJ, 1, .inr (.inl fo))) :: Rr))) (hS : va_S (fun q : Nat => s.heap.size ≤ q) s.heap H locs) (hl : lv_has ls 7 [(0, .ref b), (1, .ref x0), (2, .ref m0), (3, .ref o0), (4, .int i)]) (hi0 : 0 ≤ i.toInt) (hiL : i.toInt + 7 ≤ (L : Int)) (hk : k + 3 ≤ 601024) (hn : n + 300 ≤ 7293034) (J : ∀ (sg : zSy) (C Rr : va_W) (fo : Nat → Int64) (H : Heap) (locs : List Loc) (ls : Array Slot), zOkG sg → zCi cI cJ cQ x0 sg C → zRi cI m0 sg Rr → va_P (dC, dI) vwCl (C ++ ((o0, .inl (cJ, 1, .inr (.inl fo))) :: Rr)) H → va_D (fun q : Nat => s.heap.size ≤ q) (C ++ ((o0, .inl (cJ, 1, .inr (.inl fo))) :: Rr)) → va_S (fun q : Nat => s.heap.size ≤ q) s.heap H locs → lv_has ls 7 [(0, .ref b), (1, .ref x0), (2, .ref m0), (3, .ref o0), (4, .int i)] → W p l e room_1 s m #[Value.ref b] below meth c H locs (k + 3) (n + 300) (lw_Z below #[Value.ref b] s) (F0 m 1797 ls [])) : W p l e room_1 s m #[Value.ref b] below meth c H locs k n (lw_Z below #[Value.ref b] s) (F0 m 1696 ls []) := by
  obtain ⟨hx, hb, hr, hml, hown, hts0, hX, hbl, hlocks, hgv⟩ := id C0
  have hts : ∀ w ∈ wA, w.before #[Value.ref b] s = true := fun w h => hts0 w (List.mem_filter.mp h).1
  have hown : s.vm.findClass RL = some m.cls := hown
  have hcf : CallFix p m c code 7 s #[Value.ref b] wA RL := ⟨hx, hb, hml, hown, hts⟩
  have hbA : ¬ (fun q : Nat => s.heap.size ≤ q) b := Nat.not_le.mpr hbl
  refine lv_aload_n hx hb dL_law_1696 rfl (lv_at hl 1 rfl) ?_
  refine lv_aload_n hx hb dL_law_1697 rfl (lv_at hl 0 rfl) ?_
  refine lv_iload hx hb dL_law_1698 (lv_at hl 4 rfl) ?_
  refine lv_iconst (v := 1) hx hb dL_law_1700 (by decide) ?_
  refine lv_iadd hx hb dL_law_1701 ?_
  refine lv_topi (fun v1701 e1701 => ?_)
  have i1701 : v1701.toInt = i.toInt + 1 := zadd e1701 rfl (by decide) (by omega) (by omega)
  refine va_sld hx hb hX hbl hbA hS (vp_in_iff.mpr ⟨by omega, by omega⟩) dL_law_1702 ?_
  refine lv_topi (fun v1702 e1702 => ?_)
  refine k_X10_affords (rest := []) hcf hK3 hV hC hO hP hD hS (fun _ h => h) hl.1 (Nat.le_of_ble_eq_true rfl) (by show k + 0 ≤ 601024; omega) (by show n + 0 ≤ 7293034; omega) dL_law_1703 (fun v1703 C H locs hv1 hC hP hD hS => ?_)
  refine lv_pop hx hb dL_law_1706 rfl ?_
  refine lv_aload_n hx hb dL_law_1707 rfl (lv_at hl 2 rfl) ?_
  refine lv_aload_n hx hb dL_law_1708 rfl (lv_at hl 0 rfl) ?_
  refine lv_iload hx hb dL_law_1709 (lv_at hl 4 rfl) ?_
  refine lv_iconst (v := 1) hx hb dL_law_1711 (by decide) ?_
  refine lv_iadd hx hb dL_law_1712 ?_
  refine lv_topi (fun v1712 e1712 => ?_)
  have i1712 : v1712.toInt = i.toInt + 1 := zadd e1712 rfl (by decide) (by omega) (by omega)
  refine va_sld hx hb hX hbl hbA hS (vp_in_iff.mpr ⟨by omega, by omega⟩) dL_law_1713 ?_
  refine lv_topi (fun v1713 e1713 => ?_)
  have hP := zRotP hP
  have hD := zRotD hD
  refine k_X11_affords (rest := []) hcf hK3 hV hR hO hP hD hS (fun _ h => h) hl.1 (Nat.le_of_ble_eq_true rfl) (by show k + 0 ≤ 601024; omega) (by show n + 0 ≤ 7293034; omega) dL_law_1714 (fun v1714 Rr H locs hv2 hR hP hD hS => ?_)
  have hP := zRotP' hP
  have hD := zRotD' hD
  have ev0 : v1713 = v1702 := by rw [e1713, e1702, e1712, e1701]
  rw [ev0] at hv2
  have er : v1703.toInt = v1714.toInt := congrArg Int32.toInt (hv1.trans hv2.symm)
  refine lv_pop hx hb dL_law_1717 rfl ?_
  refine lv_goto (tgt := 1797) hx hb dL_law_1718 (by decide) ?_
  refine W.widen (k := k + 3) (n := n + 300) (by omega) (by omega) ?_
  exact J _ C Rr fo H locs ls hO hC hR hP hD hS (lv_sub hl [0, 1, 2, 3, 4] rfl)
set_option maxHeartbeats 4000000 in
set_option maxRecDepth 100000 in
theorem law_case_44 {p : Program} {l : Launch} {e : Env} {s : State} {m : MethodId} {below : List Frame} {meth : Method} {c : Code} {b L : Nat} {xs : Nat → Int32} {dC : Nat → ClassId} {dI : Nat → Nat → Nat} {cI cJ cQ : ClassId} {x0 m0 o0 : Nat} (hl0 : l.stackTraces = false) (C0 : lw_At p s m meth c b L xs) (hK3 : va_K (dC, dI) vwCl [(cI, .int), (cJ, .long), (cQ, .object "NinePortraits$Law")] s) (hV : zV (fun q : Nat => s.heap.size ≤ q) s) (hG : zG (fun q : Nat => s.heap.size ≤ q) s) (hCa : zCa s) (hL : L ≤ 3584) {sg : zSy} {C Rr : va_W} {fo : Nat → Int64} {i : Int32} {H : Heap} {locs : List Loc} {ls : Array Slot} {k n : Nat} (hO : zOkG sg) (hC : zCi cI cJ cQ x0 sg C) (hR : zRi cI m0 sg Rr) (hP : va_P (dC, dI) vwCl (C ++ ((o0, .inl (cJ, 1, .inr (.inl fo))) :: Rr)) H) (hD : va_D (fun q : Nat => s.heap.size ≤ q) (C ++ ((o0, .inl (cJ, 1, .inr (.inl fo))) :: Rr))) (hS : va_S (fun q : Nat => s.heap.size ≤ q) s.heap H locs) (hl : lv_has ls 7 [(0, .ref b), (1, .ref x0), (2, .ref m0), (3, .ref o0), (4, .int i)]) (hi0 : 0 ≤ i.toInt) (hiL : i.toInt + 7 ≤ (L : Int)) (hk : k + 3 ≤ 601024) (hn : n + 300 ≤ 7293034) (J : ∀ (sg : zSy) (C Rr : va_W) (fo : Nat → Int64) (H : Heap) (locs : List Loc) (ls : Array Slot), zOkG sg → zCi cI cJ cQ x0 sg C → zRi cI m0 sg Rr → va_P (dC, dI) vwCl (C ++ ((o0, .inl (cJ, 1, .inr (.inl fo))) :: Rr)) H → va_D (fun q : Nat => s.heap.size ≤ q) (C ++ ((o0, .inl (cJ, 1, .inr (.inl fo))) :: Rr)) → va_S (fun q : Nat => s.heap.size ≤ q) s.heap H locs → lv_has ls 7 [(0, .ref b), (1, .ref x0), (2, .ref m0), (3, .ref o0), (4, .int i)] → W p l e room_1 s m #[Value.ref b] below meth c H locs (k + 3) (n + 300) (lw_Z below #[Value.ref b] s) (F0 m 1797 ls [])) : W p l e room_1 s m #[Value.ref b] below meth c H locs k n (lw_Z below #[Value.ref b] s) (F0 m 1721 ls []) := by
  obtain ⟨hx, hb, hr, hml, hown, hts0, hX, hbl, hlocks, hgv⟩ := id C0
  have hts : ∀ w ∈ wA, w.before #[Value.ref b] s = true := fun w h => hts0 w (List.mem_filter.mp h).1
  have hown : s.vm.findClass RL = some m.cls := hown
  have hcf : CallFix p m c code 7 s #[Value.ref b] wA RL := ⟨hx, hb, hml, hown, hts⟩
  have hbA : ¬ (fun q : Nat => s.heap.size ≤ q) b := Nat.not_le.mpr hbl
  refine lv_aload_n hx hb dL_law_1721 rfl (lv_at hl 1 rfl) ?_
  refine lv_aload_n hx hb dL_law_1722 rfl (lv_at hl 0 rfl) ?_
  refine lv_iload hx hb dL_law_1723 (lv_at hl 4 rfl) ?_
  refine lv_iconst (v := 1) hx hb dL_law_1725 (by decide) ?_
  refine lv_iadd hx hb dL_law_1726 ?_
  refine lv_topi (fun v1726 e1726 => ?_)
  have i1726 : v1726.toInt = i.toInt + 1 := zadd e1726 rfl (by decide) (by omega) (by omega)
  refine va_sld hx hb hX hbl hbA hS (vp_in_iff.mpr ⟨by omega, by omega⟩) dL_law_1727 ?_
  refine lv_topi (fun v1727 e1727 => ?_)
  refine k_X10_told (rest := []) hcf hK3 hV hC hO hP hD hS (fun _ h => h) hl.1 (Nat.le_of_ble_eq_true rfl) (by show k + 0 ≤ 601024; omega) (by show n + 0 ≤ 7293034; omega) dL_law_1728 (fun v1728 C H locs hv1 hC hP hD hS => ?_)
  refine lv_pop hx hb dL_law_1731 rfl ?_
  refine lv_aload_n hx hb dL_law_1732 rfl (lv_at hl 2 rfl) ?_
  refine lv_aload_n hx hb dL_law_1733 rfl (lv_at hl 0 rfl) ?_
  refine lv_iload hx hb dL_law_1734 (lv_at hl 4 rfl) ?_
  refine lv_iconst (v := 1) hx hb dL_law_1736 (by decide) ?_
  refine lv_iadd hx hb dL_law_1737 ?_
  refine lv_topi (fun v1737 e1737 => ?_)
  have i1737 : v1737.toInt = i.toInt + 1 := zadd e1737 rfl (by decide) (by omega) (by omega)
  refine va_sld hx hb hX hbl hbA hS (vp_in_iff.mpr ⟨by omega, by omega⟩) dL_law_1738 ?_
  refine lv_topi (fun v1738 e1738 => ?_)
  have hP := zRotP hP
  have hD := zRotD hD
  refine k_X11_told (rest := []) hcf hK3 hV hR hO hP hD hS (fun _ h => h) hl.1 (Nat.le_of_ble_eq_true rfl) (by show k + 0 ≤ 601024; omega) (by show n + 0 ≤ 7293034; omega) dL_law_1739 (fun v1739 Rr H locs hv2 hR hP hD hS => ?_)
  have hP := zRotP' hP
  have hD := zRotD' hD
  have ev0 : v1738 = v1727 := by rw [e1738, e1727, e1737, e1726]
  rw [ev0] at hv2
  have er : v1728.toInt = v1739.toInt := congrArg Int32.toInt (hv1.trans hv2.symm)
  refine lv_pop hx hb dL_law_1742 rfl ?_
  refine lv_goto (tgt := 1797) hx hb dL_law_1743 (by decide) ?_
  refine W.widen (k := k + 3) (n := n + 300) (by omega) (by omega) ?_
  exact J _ C Rr fo H locs ls hO hC hR hP hD hS (lv_sub hl [0, 1, 2, 3, 4] rfl)
set_option maxHeartbeats 4000000 in
set_option maxRecDepth 100000 in
theorem law_case_45 {p : Program} {l : Launch} {e : Env} {s : State} {m : MethodId} {below : List Frame} {meth : Method} {c : Code} {b L : Nat} {xs : Nat → Int32} {dC : Nat → ClassId} {dI : Nat → Nat → Nat} {cI cJ cQ : ClassId} {x0 m0 o0 : Nat} (hl0 : l.stackTraces = false) (C0 : lw_At p s m meth c b L xs) (hK3 : va_K (dC, dI) vwCl [(cI, .int), (cJ, .long), (cQ, .object "NinePortraits$Law")] s) (hV : zV (fun q : Nat => s.heap.size ≤ q) s) (hG : zG (fun q : Nat => s.heap.size ≤ q) s) (hCa : zCa s) (hL : L ≤ 3584) {sg : zSy} {C Rr : va_W} {fo : Nat → Int64} {i : Int32} {H : Heap} {locs : List Loc} {ls : Array Slot} {k n : Nat} (hO : zOkG sg) (hC : zCi cI cJ cQ x0 sg C) (hR : zRi cI m0 sg Rr) (hP : va_P (dC, dI) vwCl (C ++ ((o0, .inl (cJ, 1, .inr (.inl fo))) :: Rr)) H) (hD : va_D (fun q : Nat => s.heap.size ≤ q) (C ++ ((o0, .inl (cJ, 1, .inr (.inl fo))) :: Rr))) (hS : va_S (fun q : Nat => s.heap.size ≤ q) s.heap H locs) (hl : lv_has ls 7 [(0, .ref b), (1, .ref x0), (2, .ref m0), (3, .ref o0), (4, .int i)]) (hi0 : 0 ≤ i.toInt) (hiL : i.toInt + 7 ≤ (L : Int)) (hk : k + 3 ≤ 601024) (hn : n + 300 ≤ 7293034) (J : ∀ (sg : zSy) (C Rr : va_W) (fo : Nat → Int64) (H : Heap) (locs : List Loc) (ls : Array Slot), zOkG sg → zCi cI cJ cQ x0 sg C → zRi cI m0 sg Rr → va_P (dC, dI) vwCl (C ++ ((o0, .inl (cJ, 1, .inr (.inl fo))) :: Rr)) H → va_D (fun q : Nat => s.heap.size ≤ q) (C ++ ((o0, .inl (cJ, 1, .inr (.inl fo))) :: Rr)) → va_S (fun q : Nat => s.heap.size ≤ q) s.heap H locs → lv_has ls 7 [(0, .ref b), (1, .ref x0), (2, .ref m0), (3, .ref o0), (4, .int i)] → W p l e room_1 s m #[Value.ref b] below meth c H locs (k + 3) (n + 300) (lw_Z below #[Value.ref b] s) (F0 m 1797 ls [])) : W p l e room_1 s m #[Value.ref b] below meth c H locs k n (lw_Z below #[Value.ref b] s) (F0 m 1746 ls []) := by
  obtain ⟨hx, hb, hr, hml, hown, hts0, hX, hbl, hlocks, hgv⟩ := id C0
  have hts : ∀ w ∈ wA, w.before #[Value.ref b] s = true := fun w h => hts0 w (List.mem_filter.mp h).1
  have hown : s.vm.findClass RL = some m.cls := hown
  have hcf : CallFix p m c code 7 s #[Value.ref b] wA RL := ⟨hx, hb, hml, hown, hts⟩
  have hbA : ¬ (fun q : Nat => s.heap.size ≤ q) b := Nat.not_le.mpr hbl
  refine lv_aload_n hx hb dL_law_1746 rfl (lv_at hl 1 rfl) ?_
  refine k_X10_image (rest := []) hcf hK3 hV hC hO hP hD hS (fun _ h => h) hl.1 (Nat.le_of_ble_eq_true rfl) (by show k + 0 ≤ 601024; omega) (by show n + 0 ≤ 7293034; omega) dL_law_1747 (fun v1747 C H locs hv1 hC hP hD hS => ?_)
  refine lv_pop hx hb dL_law_1750 rfl ?_
  refine lv_aload_n hx hb dL_law_1751 rfl (lv_at hl 2 rfl) ?_
  have hP := zRotP hP
  have hD := zRotD hD
  refine k_X11_image (rest := []) hcf hK3 hV hR hO hP hD hS (fun _ h => h) hl.1 (Nat.le_of_ble_eq_true rfl) (by show k + 0 ≤ 601024; omega) (by show n + 0 ≤ 7293034; omega) dL_law_1752 (fun v1752 Rr H locs hv2 hR hP hD hS => ?_)
  have hP := zRotP' hP
  have hD := zRotD' hD
  have er : v1747.toInt = v1752.toInt := congrArg Int32.toInt (hv1.trans hv2.symm)
  have hO : zOkG (sg.1, sg.2.1, sg.2.2.1, sg.2.2.2.1, sg.2.2.2.2.1, sg.2.2.2.2.2.1, sI_img sg.2.2.2.1.1.toInt sg.2.2.2.2.2.1 sg.2.2.2.2.2.2) := ⟨ok_img hO.1, hO.2⟩
  refine lv_pop hx hb dL_law_1755 rfl ?_
  refine lv_goto (tgt := 1797) hx hb dL_law_1756 (by decide) ?_
  refine W.widen (k := k + 3) (n := n + 300) (by omega) (by omega) ?_
  exact J _ C Rr fo H locs ls hO hC hR hP hD hS (lv_sub hl [0, 1, 2, 3, 4] rfl)
set_option maxHeartbeats 4000000 in
set_option maxRecDepth 100000 in
theorem law_case_46 {p : Program} {l : Launch} {e : Env} {s : State} {m : MethodId} {below : List Frame} {meth : Method} {c : Code} {b L : Nat} {xs : Nat → Int32} {dC : Nat → ClassId} {dI : Nat → Nat → Nat} {cI cJ cQ : ClassId} {x0 m0 o0 : Nat} (hl0 : l.stackTraces = false) (C0 : lw_At p s m meth c b L xs) (hK3 : va_K (dC, dI) vwCl [(cI, .int), (cJ, .long), (cQ, .object "NinePortraits$Law")] s) (hV : zV (fun q : Nat => s.heap.size ≤ q) s) (hG : zG (fun q : Nat => s.heap.size ≤ q) s) (hCa : zCa s) (hL : L ≤ 3584) {sg : zSy} {C Rr : va_W} {fo : Nat → Int64} {i : Int32} {H : Heap} {locs : List Loc} {ls : Array Slot} {k n : Nat} (hO : zOkG sg) (hC : zCi cI cJ cQ x0 sg C) (hR : zRi cI m0 sg Rr) (hP : va_P (dC, dI) vwCl (C ++ ((o0, .inl (cJ, 1, .inr (.inl fo))) :: Rr)) H) (hD : va_D (fun q : Nat => s.heap.size ≤ q) (C ++ ((o0, .inl (cJ, 1, .inr (.inl fo))) :: Rr))) (hS : va_S (fun q : Nat => s.heap.size ≤ q) s.heap H locs) (hl : lv_has ls 7 [(0, .ref b), (1, .ref x0), (2, .ref m0), (3, .ref o0), (4, .int i)]) (hi0 : 0 ≤ i.toInt) (hiL : i.toInt + 7 ≤ (L : Int)) (hk : k + 3 ≤ 601024) (hn : n + 300 ≤ 7293034) (J : ∀ (sg : zSy) (C Rr : va_W) (fo : Nat → Int64) (H : Heap) (locs : List Loc) (ls : Array Slot), zOkG sg → zCi cI cJ cQ x0 sg C → zRi cI m0 sg Rr → va_P (dC, dI) vwCl (C ++ ((o0, .inl (cJ, 1, .inr (.inl fo))) :: Rr)) H → va_D (fun q : Nat => s.heap.size ≤ q) (C ++ ((o0, .inl (cJ, 1, .inr (.inl fo))) :: Rr)) → va_S (fun q : Nat => s.heap.size ≤ q) s.heap H locs → lv_has ls 7 [(0, .ref b), (1, .ref x0), (2, .ref m0), (3, .ref o0), (4, .int i)] → W p l e room_1 s m #[Value.ref b] below meth c H locs (k + 3) (n + 300) (lw_Z below #[Value.ref b] s) (F0 m 1797 ls [])) : W p l e room_1 s m #[Value.ref b] below meth c H locs k n (lw_Z below #[Value.ref b] s) (F0 m 1759 ls []) := by
  obtain ⟨hx, hb, hr, hml, hown, hts0, hX, hbl, hlocks, hgv⟩ := id C0
  have hts : ∀ w ∈ wA, w.before #[Value.ref b] s = true := fun w h => hts0 w (List.mem_filter.mp h).1
  have hown : s.vm.findClass RL = some m.cls := hown
  have hcf : CallFix p m c code 7 s #[Value.ref b] wA RL := ⟨hx, hb, hml, hown, hts⟩
  have hbA : ¬ (fun q : Nat => s.heap.size ≤ q) b := Nat.not_le.mpr hbl
  refine lv_aload_n hx hb dL_law_1759 rfl (lv_at hl 1 rfl) ?_
  refine k_X10_back (rest := []) hcf hK3 hV hC hO hP hD hS (fun _ h => h) hl.1 (Nat.le_of_ble_eq_true rfl) (by show k + 0 ≤ 601024; omega) (by show n + 0 ≤ 7293034; omega) dL_law_1760 (fun v1760 C H locs hv1 hC hP hD hS => ?_)
  refine lv_pop hx hb dL_law_1763 rfl ?_
  refine lv_aload_n hx hb dL_law_1764 rfl (lv_at hl 2 rfl) ?_
  have hP := zRotP hP
  have hD := zRotD hD
  refine k_X11_back (rest := []) hcf hK3 hV hR hO hP hD hS (fun _ h => h) hl.1 (Nat.le_of_ble_eq_true rfl) (by show k + 0 ≤ 601024; omega) (by show n + 0 ≤ 7293034; omega) dL_law_1765 (fun v1765 Rr H locs hv2 hR hP hD hS => ?_)
  have hP := zRotP' hP
  have hD := zRotD' hD
  have er : v1760.toInt = v1765.toInt := congrArg Int32.toInt (hv1.trans hv2.symm)
  have hO : zOkG (sg.1, sg.2.1, sg.2.2.1, sg.2.2.2.1, sg.2.2.2.2.1, sT_bck sg.2.2.2.2.2.2 sg.2.2.2.2.2.1, sg.2.2.2.2.2.2) := ⟨ok_bck hO.1, hO.2⟩
  refine lv_pop hx hb dL_law_1768 rfl ?_
  refine lv_goto (tgt := 1797) hx hb dL_law_1769 (by decide) ?_
  refine W.widen (k := k + 3) (n := n + 300) (by omega) (by omega) ?_
  exact J _ C Rr fo H locs ls hO hC hR hP hD hS (lv_sub hl [0, 1, 2, 3, 4] rfl)
set_option maxHeartbeats 4000000 in
set_option maxRecDepth 100000 in
theorem law_case_47 {p : Program} {l : Launch} {e : Env} {s : State} {m : MethodId} {below : List Frame} {meth : Method} {c : Code} {b L : Nat} {xs : Nat → Int32} {dC : Nat → ClassId} {dI : Nat → Nat → Nat} {cI cJ cQ : ClassId} {x0 m0 o0 : Nat} (hl0 : l.stackTraces = false) (C0 : lw_At p s m meth c b L xs) (hK3 : va_K (dC, dI) vwCl [(cI, .int), (cJ, .long), (cQ, .object "NinePortraits$Law")] s) (hV : zV (fun q : Nat => s.heap.size ≤ q) s) (hG : zG (fun q : Nat => s.heap.size ≤ q) s) (hCa : zCa s) (hL : L ≤ 3584) {sg : zSy} {C Rr : va_W} {fo : Nat → Int64} {i : Int32} {H : Heap} {locs : List Loc} {ls : Array Slot} {k n : Nat} (hO : zOkG sg) (hC : zCi cI cJ cQ x0 sg C) (hR : zRi cI m0 sg Rr) (hP : va_P (dC, dI) vwCl (C ++ ((o0, .inl (cJ, 1, .inr (.inl fo))) :: Rr)) H) (hD : va_D (fun q : Nat => s.heap.size ≤ q) (C ++ ((o0, .inl (cJ, 1, .inr (.inl fo))) :: Rr))) (hS : va_S (fun q : Nat => s.heap.size ≤ q) s.heap H locs) (hl : lv_has ls 7 [(0, .ref b), (1, .ref x0), (2, .ref m0), (3, .ref o0), (4, .int i)]) (hi0 : 0 ≤ i.toInt) (hiL : i.toInt + 7 ≤ (L : Int)) (hk : k + 3 ≤ 601024) (hn : n + 300 ≤ 7293034) (J : ∀ (sg : zSy) (C Rr : va_W) (fo : Nat → Int64) (H : Heap) (locs : List Loc) (ls : Array Slot), zOkG sg → zCi cI cJ cQ x0 sg C → zRi cI m0 sg Rr → va_P (dC, dI) vwCl (C ++ ((o0, .inl (cJ, 1, .inr (.inl fo))) :: Rr)) H → va_D (fun q : Nat => s.heap.size ≤ q) (C ++ ((o0, .inl (cJ, 1, .inr (.inl fo))) :: Rr)) → va_S (fun q : Nat => s.heap.size ≤ q) s.heap H locs → lv_has ls 7 [(0, .ref b), (1, .ref x0), (2, .ref m0), (3, .ref o0), (4, .int i)] → W p l e room_1 s m #[Value.ref b] below meth c H locs (k + 3) (n + 300) (lw_Z below #[Value.ref b] s) (F0 m 1797 ls [])) : W p l e room_1 s m #[Value.ref b] below meth c H locs k n (lw_Z below #[Value.ref b] s) (F0 m 1772 ls []) := by
  obtain ⟨hx, hb, hr, hml, hown, hts0, hX, hbl, hlocks, hgv⟩ := id C0
  have hts : ∀ w ∈ wA, w.before #[Value.ref b] s = true := fun w h => hts0 w (List.mem_filter.mp h).1
  have hown : s.vm.findClass RL = some m.cls := hown
  have hcf : CallFix p m c code 7 s #[Value.ref b] wA RL := ⟨hx, hb, hml, hown, hts⟩
  have hbA : ¬ (fun q : Nat => s.heap.size ≤ q) b := Nat.not_le.mpr hbl
  refine lv_aload_n hx hb dL_law_1772 rfl (lv_at hl 1 rfl) ?_
  refine lv_aload_n hx hb dL_law_1773 rfl (lv_at hl 0 rfl) ?_
  refine lv_iload hx hb dL_law_1774 (lv_at hl 4 rfl) ?_
  refine lv_iconst (v := 1) hx hb dL_law_1776 (by decide) ?_
  refine lv_iadd hx hb dL_law_1777 ?_
  refine lv_topi (fun v1777 e1777 => ?_)
  have i1777 : v1777.toInt = i.toInt + 1 := zadd e1777 rfl (by decide) (by omega) (by omega)
  refine va_sld hx hb hX hbl hbA hS (vp_in_iff.mpr ⟨by omega, by omega⟩) dL_law_1778 ?_
  refine lv_topi (fun v1778 e1778 => ?_)
  refine k_X10_count (rest := []) hcf hK3 hV hC hO hP hD hS (fun _ h => h) hl.1 (Nat.le_of_ble_eq_true rfl) (by show k + 0 ≤ 601024; omega) (by show n + 0 ≤ 7293034; omega) dL_law_1779 (fun v1779 C H locs hv1 hC hP hD hS => ?_)
  refine lv_pop hx hb dL_law_1782 rfl ?_
  refine lv_aload_n hx hb dL_law_1783 rfl (lv_at hl 2 rfl) ?_
  refine lv_aload_n hx hb dL_law_1784 rfl (lv_at hl 0 rfl) ?_
  refine lv_iload hx hb dL_law_1785 (lv_at hl 4 rfl) ?_
  refine lv_iconst (v := 1) hx hb dL_law_1787 (by decide) ?_
  refine lv_iadd hx hb dL_law_1788 ?_
  refine lv_topi (fun v1788 e1788 => ?_)
  have i1788 : v1788.toInt = i.toInt + 1 := zadd e1788 rfl (by decide) (by omega) (by omega)
  refine va_sld hx hb hX hbl hbA hS (vp_in_iff.mpr ⟨by omega, by omega⟩) dL_law_1789 ?_
  refine lv_topi (fun v1789 e1789 => ?_)
  have hP := zRotP hP
  have hD := zRotD hD
  refine k_X11_count (rest := []) hcf hK3 hV hR hO hP hD hS (fun _ h => h) hl.1 (Nat.le_of_ble_eq_true rfl) (by show k + 0 ≤ 601024; omega) (by show n + 0 ≤ 7293034; omega) dL_law_1790 (fun v1790 Rr H locs hv2 hR hP hD hS => ?_)
  have hP := zRotP' hP
  have hD := zRotD' hD
  have ev0 : v1789 = v1778 := by rw [e1789, e1778, e1788, e1777]
  rw [ev0] at hv2
  have er : v1779.toInt = v1790.toInt := hv1.trans hv2.symm
  refine lv_pop hx hb dL_law_1793 rfl ?_
  refine lv_goto (tgt := 1797) hx hb dL_law_1794 (by decide) ?_
  refine W.widen (k := k + 3) (n := n + 300) (by omega) (by omega) ?_
  exact J _ C Rr fo H locs ls hO hC hR hP hD hS (lv_sub hl [0, 1, 2, 3, 4] rfl)
