def wA : List Cond := lw_tbl.filter goodWord
theorem zw (i : Nat) {w : Cond} (h : lw_tbl[i]? = some w) (hg : goodWord w = true) : w ∈ wA := List.mem_filter.mpr ⟨List.mem_of_getElem? h, hg⟩
theorem zin {ws : List Cond} (ps : List Nat) (hp : ws = ps.filterMap (fun i => lw_tbl[i]?)) (h : ws.all goodWord = true) : ∀ w ∈ ws, w ∈ wA := by
  intro w hw
  have h1 := List.all_eq_true.mp h w hw
  rw [hp] at hw
  obtain ⟨i, -, hi⟩ := List.mem_filterMap.mp hw
  exact List.mem_filter.mpr ⟨List.mem_of_getElem? hi, h1⟩
theorem zgood {w : Cond} (h : w ∈ wA) : w ∈ wA ∧ ((w.onTables && w.keeps) = true ∨ ∃ ty, w = .arrayClass ty) := ⟨h, good_of_word (List.mem_filter.mp h).2⟩
theorem zgI {w : Cond} (hc : w ∈ wA) : GoodIn wA (w :: wA) := by
  intro v hv
  rcases List.mem_cons.mp hv with rfl | h
  · exact zgood hc
  · exact zgood h
theorem zgV {own C : String} {idx : Nat} {y : MethodName} {w : Cond} (h1 : Cond.methodLink own idx y ∈ wA) (h2 : Cond.instanceMethod y ∈ wA) (h3 : Cond.selects C y y ∈ wA) (h4 : Cond.initialized C ∈ wA) (hc : w ∈ wA) : GoodIn wA (wsV own idx C y (w :: wA)) := by
  intro v hv
  unfold wsV at hv
  rcases List.mem_append.mp hv with h | h
  · simp only [List.mem_cons, List.not_mem_nil, or_false] at h
    rcases h with rfl | rfl | rfl | rfl
    · exact zgood h1
    · exact zgood h2
    · exact zgood h3
    · exact zgood h4
  · exact zgI hc v h
theorem zgS {own : String} {idx : Nat} {y : MethodName} {w : Cond} (h1 : Cond.methodLink own idx y ∈ wA) (h2 : Cond.static y ∈ wA) (h4 : Cond.initialized own ∈ wA) (hc : w ∈ wA) : GoodIn wA (wsS own idx y (w :: wA)) := by
  intro v hv
  unfold wsS at hv
  rcases List.mem_append.mp hv with h | h
  · simp only [List.mem_cons, List.not_mem_nil, or_false] at h
    rcases h with rfl | rfl | rfl
    · exact zgood h1
    · exact zgood h2
    · exact zgood h4
  · exact zgI hc v h
/-- a method's start: the arguments, the heap's size, the world, the tables, the cells apart -/
def zP (D : va_G) (ts : List (ClassId × FieldType)) (av : List Value) (sz : Nat) (ws : va_W) : Array Value → State → Prop := va_Pc av (fun U => U.heap.size = sz ∧ va_P D vwCl ws U.heap ∧ va_K D vwCl ts U ∧ va_D (fun _ => True) ws)
theorem zPb {D : va_G} {ts : List (ClassId × FieldType)} {av : List Value} {sz : Nat} {ws : va_W} : FrameBlind (zP D ts av sz ws) := fun a U g mk q => by
  obtain ⟨q0, q1, qP, qK, qD⟩ := q
  exact ⟨q0, q1, qP, va_K.moved (u := U) (U := U.calling g mk a) (Vm.Alike.refl U.vm) qK, qD⟩
theorem zPS {D : va_G} {ts : List (ClassId × FieldType)} {As : List Value} {ws : va_W} {s : State} {H : Heap} {A : Nat → Prop} (hP : va_P D vwCl ws H) (hK : va_K D vwCl ts s) (hD : va_D A ws) : PreS s H (zP D ts As H.size ws) As :=
  ⟨zPb, fun U hU hW => ⟨rfl, by rw [hU], by rw [hU]; exact hP, va_K.moved hW.alike hK, hD.weaken (fun _ _ _ _ => trivial)⟩⟩
theorem zPV {D : va_G} {ts : List (ClassId × FieldType)} {As : List Value} {ws : va_W} {s : State} {H : Heap} {A : Nat → Prop} {C : String} {b : Addr} (hP : va_P D vwCl ws H) (hK : va_K D vwCl ts s) (hD : va_D A ws) (hr : ∃ cell : Cell, H[b]? = some cell ∧ cell.vm.isStatics = false ∧ s.vm.findClass C = some cell.cls) : PreV s H C b (zP D ts (.ref b :: As) H.size ws) As :=
  ⟨zPb, hr, fun U hU hW => ⟨rfl, by rw [hU], by rw [hU]; exact hP, va_K.moved hW.alike hK, hD.weaken (fun _ _ _ _ => trivial)⟩⟩
theorem zP0 {D : va_G} {cl : List vw_C} {H : Heap} : va_P D cl [] H := fun k q h => by simp at h
theorem zD0 {A : Nat → Prop} : va_D A [] := ⟨fun i j p q h => by simp at h, fun k q h => by simp at h⟩
theorem zfr {A : Nat → Prop} {H0 H : Heap} {locs : List Loc} (hS : va_S A H0 H locs) (hA : ∀ q : Nat, H0.size ≤ q → A q) : ∀ q, va_A [] H.size q → A q := by
  intro q h
  rcases h with ⟨k, e, h⟩ | h
  · simp at h
  · exact hA q (Nat.le_trans hS.1 h)
theorem zkeep {D : va_G} {cl : List vw_C} {ws : va_W} {H H1 : Heap} (hP : va_P D cl ws H) (hk : ∀ q : Nat, q < H.size → ¬ va_A [] H.size q → H1[q]? = H[q]?) : va_P D cl ws H1 := by
  refine hP.kept (fun k q hq => hk q.1 (hP k q hq).lt ?_)
  rintro (⟨i, e, h⟩ | h)
  · simp at h
  · exact absurd (hP k q hq).lt (Nat.not_lt.mpr h)
theorem zstart {p : Program} {l : Launch} {e : Env} {R : Room} {s : State} {m : MethodId} {args : Array Value} {below : List Frame} {meth : Method} {c : Code} {cells slots : Nat} {Q : State → Prop} {g : JFrame} (kk : ∀ H : Heap, H = s.heap → W p l e R s m args below meth c H [] cells slots Q g) : W p l e R s m args below meth c s.heap [] cells slots Q g := kk _ rfl
theorem z1 {x y : Int32} {a b : Int} (hx : x.toInt = a) (hy : y.toInt = b) (h : x < y) : a < b := by rw [← hx, ← hy]; exact Int32.lt_iff_toInt_lt.mp h
theorem z2 {x y : Int32} {a b : Int} (hx : x.toInt = a) (hy : y.toInt = b) (h : ¬ x < y) : b ≤ a := by rw [← hx, ← hy]; exact Int.not_lt.mp (fun q => h (Int32.lt_iff_toInt_lt.mpr q))
theorem z3 {x y : Int32} {a b : Int} (hx : x.toInt = a) (hy : y.toInt = b) (h : x ≤ y) : a ≤ b := by rw [← hx, ← hy]; exact Int32.le_iff_toInt_le.mp h
theorem z4 {x y : Int32} {a b : Int} (hx : x.toInt = a) (hy : y.toInt = b) (h : ¬ x ≤ y) : b < a := by rw [← hx, ← hy]; exact Int.not_le.mp (fun q => h (Int32.le_iff_toInt_le.mpr q))
theorem z5 {x y : Int32} {a b : Int} (hx : x.toInt = a) (hy : y.toInt = b) (h : x = y) : a = b := by rw [← hx, ← hy, h]
theorem z6 {x y : Int32} {a b : Int} (hx : x.toInt = a) (hy : y.toInt = b) (h : ¬ x = y) : ¬ a = b := by rw [← hx, ← hy]; exact fun q => h (Int32.toInt_inj.mp q)
theorem z7 {x k : Int32} {a : Int} (hk : k.toInt = a) (h : x.toInt = a) : x = k := Int32.toInt_inj.mp (by rw [h, hk])
theorem zsw (x : Int32) (lo hi : Int) : (x.toInt < lo ∨ hi < x.toInt) ∨ (lo ≤ x.toInt ∧ x.toInt ≤ hi) := by omega
theorem zcA {D : va_G} {cl : List vw_C} {tys : List (ClassId × FieldType)} {s : State} {ty : FieldType} {c1 c2 : ClassId} (hK : va_K D cl tys s) (i j : Nat) (h1 : tys[i]? = some (c1, ty)) (h2 : tys[j]? = some (c2, ty)) : c2 = c1 := by
  have a := (hK.2 i _ h1).2
  have b := (hK.2 j _ h2).2
  cases ty <;> first | exact Option.some.inj (b.symm.trans a) | (obtain ⟨_, _, _, _, _, a⟩ := a; obtain ⟨_, _, _, _, _, b⟩ := b; exact Option.some.inj (b.symm.trans a))
/-- what the arithmetic needn't look into -/
def zHid (p : Prop) : Prop := p
theorem zt1 {w : Cond} (h : w ∈ tables_1_1) : w ∈ lw_tbl := List.mem_append_right (k2_sels lw_privs) (show w ∈ tables_1 from List.mem_append_left _ h)
theorem zt2 {w : Cond} (h : w ∈ tables_1_2) : w ∈ lw_tbl := List.mem_append_right (k2_sels lw_privs) (show w ∈ tables_1 from List.mem_append_right _ (List.mem_append_left _ h))
theorem zt3 {w : Cond} (h : w ∈ tables_1_3) : w ∈ lw_tbl := List.mem_append_right (k2_sels lw_privs) (show w ∈ tables_1 from List.mem_append_right _ (List.mem_append_right _ (List.mem_append_left _ h)))
theorem zt4 {w : Cond} (h : w ∈ tables_1_4) : w ∈ lw_tbl := List.mem_append_right (k2_sels lw_privs) (show w ∈ tables_1 from List.mem_append_right _ (List.mem_append_right _ (List.mem_append_right _ (List.mem_append_left _ h))))
theorem zt5 {w : Cond} (h : w ∈ tables_1_5) : w ∈ lw_tbl := List.mem_append_right (k2_sels lw_privs) (show w ∈ tables_1 from List.mem_append_right _ (List.mem_append_right _ (List.mem_append_right _ (List.mem_append_right _ (List.mem_append_left _ h)))))
theorem zt6 {w : Cond} (h : w ∈ tables_1_6) : w ∈ lw_tbl := List.mem_append_right (k2_sels lw_privs) (show w ∈ tables_1 from List.mem_append_right _ (List.mem_append_right _ (List.mem_append_right _ (List.mem_append_right _ (List.mem_append_right _ (List.mem_append_left _ h))))))
theorem zt7 {w : Cond} (h : w ∈ tables_1_7) : w ∈ lw_tbl := List.mem_append_right (k2_sels lw_privs) (show w ∈ tables_1 from List.mem_append_right _ (List.mem_append_right _ (List.mem_append_right _ (List.mem_append_right _ (List.mem_append_right _ (List.mem_append_right _ (List.mem_append_left _ h)))))))
theorem zt8 {w : Cond} (h : w ∈ tables_1_8) : w ∈ lw_tbl := List.mem_append_right (k2_sels lw_privs) (show w ∈ tables_1 from List.mem_append_right _ (List.mem_append_right _ (List.mem_append_right _ (List.mem_append_right _ (List.mem_append_right _ (List.mem_append_right _ (List.mem_append_right _ (h))))))))
set_option maxRecDepth 20000 in
theorem iX0 : ∀ w ∈ u_ws RX0 TX0 3, w ∈ wA := zin [272, 274, 276] (by decide +kernel) (by decide +kernel)
theorem fsX0 : ∀ j, j < 3 → defaultValue (tyX0 j) = vp_V [.null, .int 0, .int 0] j := by decide +kernel
set_option maxRecDepth 20000 in
theorem iX1 : ∀ w ∈ u_ws RX1 TX1 5, w ∈ wA := zin [201, 203, 205, 207, 209] (by decide +kernel) (by decide +kernel)
theorem fsX1 : ∀ j, j < 5 → defaultValue (tyX1 j) = vp_V [.null, .null, .null, .int 0, .int 0] j := by decide +kernel
set_option maxRecDepth 20000 in
theorem iX2 : ∀ w ∈ u_ws RX2 TX2 3, w ∈ wA := zin [157, 159, 161] (by decide +kernel) (by decide +kernel)
theorem fsX2 : ∀ j, j < 3 → defaultValue (tyX2 j) = vp_V [.null, .null, .int 0] j := by decide +kernel
set_option maxRecDepth 20000 in
theorem iX3 : ∀ w ∈ u_ws RX3 TX3 1, w ∈ wA := zin [353] (by decide +kernel) (by decide +kernel)
theorem fsX3 : ∀ j, j < 1 → defaultValue (tyX3 j) = vp_V [.long 0] j := by decide +kernel
set_option maxRecDepth 20000 in
theorem iX4 : ∀ w ∈ u_ws RX4 TX4 1, w ∈ wA := zin [577] (by decide +kernel) (by decide +kernel)
theorem fsX4 : ∀ j, j < 1 → defaultValue (tyX4 j) = vp_V [.null] j := by decide +kernel
set_option maxRecDepth 20000 in
theorem iX5 : ∀ w ∈ u_ws RX5 TX5 3, w ∈ wA := zin [173, 175, 177] (by decide +kernel) (by decide +kernel)
theorem fsX5 : ∀ j, j < 3 → defaultValue (tyX5 j) = vp_V [.null, .int 0, .null] j := by decide +kernel
set_option maxRecDepth 20000 in
theorem iX6 : ∀ w ∈ u_ws RX6 TX6 9, w ∈ wA := zin [326, 328, 330, 332, 334, 336, 338, 340, 342] (by decide +kernel) (by decide +kernel)
theorem fsX6 : ∀ j, j < 9 → defaultValue (tyX6 j) = vp_V [.null, .null, .null, .null, .long 0, .int 0, .null, .null, .null] j := by decide +kernel
set_option maxRecDepth 20000 in
theorem iX7 : ∀ w ∈ u_ws RX7 TX7 9, w ∈ wA := zin [243, 245, 247, 249, 251, 253, 255, 257, 259] (by decide +kernel) (by decide +kernel)
theorem fsX7 : ∀ j, j < 9 → defaultValue (tyX7 j) = vp_V [.null, .null, .null, .int 0, .int 0, .int 0, .int 0, .int 0, .int 0] j := by decide +kernel
set_option maxRecDepth 20000 in
theorem iX8 : ∀ w ∈ u_ws RX8 TX8 7, w ∈ wA := zin [295, 297, 299, 301, 303, 305, 307] (by decide +kernel) (by decide +kernel)
theorem fsX8 : ∀ j, j < 7 → defaultValue (tyX8 j) = vp_V [.null, .null, .null, .null, .null, .null, .null] j := by decide +kernel
set_option maxRecDepth 20000 in
theorem iX9 : ∀ w ∈ u_ws RX9 TX9 3, w ∈ wA := zin [140, 142, 144] (by decide +kernel) (by decide +kernel)
theorem fsX9 : ∀ j, j < 3 → defaultValue (tyX9 j) = vp_V [.null, .int 0, .int 0] j := by decide +kernel
set_option maxRecDepth 20000 in
theorem iX10 : ∀ w ∈ u_ws RX10 TX10 17, w ∈ wA := zin [373, 375, 377, 379, 381, 383, 385, 387, 389, 391, 393, 395, 397, 399, 401, 403, 405] (by decide +kernel) (by decide +kernel)
theorem fsX10 : ∀ j, j < 17 → defaultValue (tyX10 j) = vp_V [.null, .null, .null, .null, .null, .null, .null, .null, .null, .null, .null, .null, .null, .int 0, .int 0, .int 0, .int 0] j := by decide +kernel
set_option maxRecDepth 20000 in
theorem iX11 : ∀ w ∈ u_ws RX11 TX11 41, w ∈ wA := zin [1168, 1170, 1172, 1174, 1176, 1178, 1180, 1182, 1184, 1186, 1188, 1190, 1192, 1194, 1196, 1198, 1200, 1202, 1204, 1206, 1208, 1210, 1212, 1214, 1216, 1218, 1220, 1222, 1224, 1226, 1228, 1230, 1232, 1234, 1236, 1238, 1240, 1242, 1244, 1246, 1248] (by decide +kernel) (by decide +kernel)
theorem fsX11 : ∀ j, j < 41 → defaultValue (tyX11 j) = vp_V [.int 0, .null, .int 0, .int 0, .int 0, .int 0, .null, .null, .null, .null, .null, .null, .null, .int 0, .int 0, .null, .null, .null, .null, .null, .int 0, .int 0, .null, .null, .null, .int 0, .int 0, .null, .null, .int 0, .int 0, .null, .int 0, .long 0, .null, .int 0, .int 0, .null, .null, .null, .int 0] j := by decide +kernel
set_option maxRecDepth 20000 in
theorem qw10 : Cond.selects RX10 yX10_hasCourt yX10_hasCourt ∈ wA := zw 10 (by decide +kernel) (by decide +kernel)
set_option maxRecDepth 20000 in
theorem qw11 : Cond.selects RX10 yX10_isPainter yX10_isPainter ∈ wA := zw 11 (by decide +kernel) (by decide +kernel)
set_option maxRecDepth 20000 in
theorem qw12 : Cond.selects RX10 yX10_isBride yX10_isBride ∈ wA := zw 12 (by decide +kernel) (by decide +kernel)
set_option maxRecDepth 20000 in
theorem qw13 : Cond.selects RX10 yX10_refuse yX10_refuse ∈ wA := zw 13 (by decide +kernel) (by decide +kernel)
set_option maxRecDepth 20000 in
theorem qw14 : Cond.selects RX10 yX10_paintNow yX10_paintNow ∈ wA := zw 14 (by decide +kernel) (by decide +kernel)
set_option maxRecDepth 20000 in
theorem qw15 : Cond.selects RX10 yX10_paysToHear yX10_paysToHear ∈ wA := zw 15 (by decide +kernel) (by decide +kernel)
set_option maxRecDepth 20000 in
theorem qw16 : Cond.selects RX10 yX10_looked yX10_looked ∈ wA := zw 16 (by decide +kernel) (by decide +kernel)
set_option maxRecDepth 20000 in
theorem qw17 : Cond.selects RX10 yX10_paintByDraws yX10_paintByDraws ∈ wA := zw 17 (by decide +kernel) (by decide +kernel)
set_option maxRecDepth 20000 in
theorem qw18 : Cond.selects RX10 yX10_payByDraws yX10_payByDraws ∈ wA := zw 18 (by decide +kernel) (by decide +kernel)
set_option maxRecDepth 20000 in
theorem qw19 : Cond.selects RX6 yX6_sketches yX6_sketches ∈ wA := zw 19 (by decide +kernel) (by decide +kernel)
set_option maxRecDepth 20000 in
theorem qw20 : Cond.selects RX6 yX6_weighBy yX6_weighBy ∈ wA := zw 20 (by decide +kernel) (by decide +kernel)
set_option maxRecDepth 20000 in
theorem qw21 : Cond.selects RX6 yX6_mostAlike yX6_mostAlike ∈ wA := zw 21 (by decide +kernel) (by decide +kernel)
set_option maxRecDepth 20000 in
theorem qw22 : Cond.selects RX6 yX6_addTeller yX6_addTeller ∈ wA := zw 22 (by decide +kernel) (by decide +kernel)
set_option maxRecDepth 20000 in
theorem qw23 : Cond.selects RX6 yX6_tellsAll yX6_tellsAll ∈ wA := zw 23 (by decide +kernel) (by decide +kernel)
set_option maxRecDepth 20000 in
theorem qw24 : Cond.selects RX10 yX10_choice yX10_choice ∈ wA := zw 24 (by decide +kernel) (by decide +kernel)
set_option maxRecDepth 20000 in
theorem qw25 : Cond.selects RX10 yX10_canPlay yX10_canPlay ∈ wA := zw 25 (by decide +kernel) (by decide +kernel)
set_option maxRecDepth 20000 in
theorem qw26 : Cond.selects RX10 yX10_rankByPay yX10_rankByPay ∈ wA := zw 26 (by decide +kernel) (by decide +kernel)
set_option maxRecDepth 20000 in
theorem qw27 : Cond.selects RX10 yX10_plainBrides yX10_plainBrides ∈ wA := zw 27 (by decide +kernel) (by decide +kernel)
set_option maxRecDepth 20000 in
theorem qw28 : Cond.selects RX10 yX10_lies yX10_lies ∈ wA := zw 28 (by decide +kernel) (by decide +kernel)
set_option maxRecDepth 20000 in
theorem qw29 : Cond.selects RX10 yX10_above yX10_above ∈ wA := zw 29 (by decide +kernel) (by decide +kernel)
set_option maxRecDepth 20000 in
theorem qw98 : Cond.initialized RX10 ∈ wA := List.mem_filter.mpr ⟨zt1 (List.mem_of_getElem? (i := 1) rfl), (by decide +kernel)⟩
set_option maxRecDepth 20000 in
theorem qw99 : Cond.initialized RX9 ∈ wA := List.mem_filter.mpr ⟨zt1 (List.mem_of_getElem? (i := 2) rfl), (by decide +kernel)⟩
set_option maxRecDepth 20000 in
theorem qw102 : Cond.initialized RX1 ∈ wA := List.mem_filter.mpr ⟨zt1 (List.mem_of_getElem? (i := 5) rfl), (by decide +kernel)⟩
set_option maxRecDepth 20000 in
theorem qw103 : Cond.initialized RX7 ∈ wA := List.mem_filter.mpr ⟨zt1 (List.mem_of_getElem? (i := 6) rfl), (by decide +kernel)⟩
set_option maxRecDepth 20000 in
theorem qw104 : Cond.initialized RX0 ∈ wA := List.mem_filter.mpr ⟨zt1 (List.mem_of_getElem? (i := 7) rfl), (by decide +kernel)⟩
set_option maxRecDepth 20000 in
theorem qw105 : Cond.initialized RX8 ∈ wA := List.mem_filter.mpr ⟨zt1 (List.mem_of_getElem? (i := 8) rfl), (by decide +kernel)⟩
set_option maxRecDepth 20000 in
theorem qw106 : Cond.initialized RX6 ∈ wA := List.mem_filter.mpr ⟨zt1 (List.mem_of_getElem? (i := 9) rfl), (by decide +kernel)⟩
set_option maxRecDepth 20000 in
theorem qw107 : Cond.initialized RX3 ∈ wA := List.mem_filter.mpr ⟨zt1 (List.mem_of_getElem? (i := 10) rfl), (by decide +kernel)⟩
set_option maxRecDepth 20000 in
theorem qw109 : Cond.initialized RJ10 ∈ wA := List.mem_filter.mpr ⟨zt1 (List.mem_of_getElem? (i := 12) rfl), (by decide +kernel)⟩
set_option maxRecDepth 20000 in
theorem qw110 : Cond.initialized RX4 ∈ wA := List.mem_filter.mpr ⟨zt1 (List.mem_of_getElem? (i := 13) rfl), (by decide +kernel)⟩
set_option maxRecDepth 20000 in
theorem qw111 : Cond.initialized RJ7 ∈ wA := List.mem_filter.mpr ⟨zt1 (List.mem_of_getElem? (i := 14) rfl), (by decide +kernel)⟩
set_option maxRecDepth 20000 in
theorem qw112 : Cond.initialized RJ9 ∈ wA := List.mem_filter.mpr ⟨zt1 (List.mem_of_getElem? (i := 15) rfl), (by decide +kernel)⟩
set_option maxRecDepth 20000 in
theorem qw117 : Cond.initialized RJ6 ∈ wA := List.mem_filter.mpr ⟨zt1 (List.mem_of_getElem? (i := 20) rfl), (by decide +kernel)⟩
set_option maxRecDepth 20000 in
theorem qw132 : Cond.fieldLink RX9 9 "NinePortraits$Tape" "bytes" "[I" ∈ wA := List.mem_filter.mpr ⟨zt1 (List.mem_of_getElem? (i := 35) rfl), (by decide +kernel)⟩
set_option maxRecDepth 20000 in
theorem qw133 : Cond.fieldLink RX10 96 "NinePortraits$Tape" "length" "I" ∈ wA := List.mem_filter.mpr ⟨zt1 (List.mem_of_getElem? (i := 36) rfl), (by decide +kernel)⟩
set_option maxRecDepth 20000 in
theorem qw134 : Cond.fieldLink RX9 15 "NinePortraits$Tape" "length" "I" ∈ wA := List.mem_filter.mpr ⟨zt1 (List.mem_of_getElem? (i := 37) rfl), (by decide +kernel)⟩
set_option maxRecDepth 20000 in
theorem qw139 : Cond.fieldLink RX9 19 "NinePortraits$Tape" "at" "I" ∈ wA := List.mem_filter.mpr ⟨zt1 (List.mem_of_getElem? (i := 42) rfl), (by decide +kernel)⟩
set_option maxRecDepth 20000 in
theorem qw186 : Cond.fieldLink RX1 9 "NinePortraits$Court" "rules" "[I" ∈ wA := List.mem_filter.mpr ⟨zt1 (List.mem_of_getElem? (i := 89) rfl), (by decide +kernel)⟩
set_option maxRecDepth 20000 in
theorem qw188 : Cond.fieldLink RX1 15 "NinePortraits$Court" "brideParts" "[I" ∈ wA := List.mem_filter.mpr ⟨zt1 (List.mem_of_getElem? (i := 91) rfl), (by decide +kernel)⟩
set_option maxRecDepth 20000 in
theorem qw190 : Cond.fieldLink RX1 18 "NinePortraits$Court" "painterParts" "[I" ∈ wA := List.mem_filter.mpr ⟨zt1 (List.mem_of_getElem? (i := 93) rfl), (by decide +kernel)⟩
set_option maxRecDepth 20000 in
theorem qw192 : Cond.fieldLink RX1 21 "NinePortraits$Court" "brides" "I" ∈ wA := List.mem_filter.mpr ⟨zt1 (List.mem_of_getElem? (i := 95) rfl), (by decide +kernel)⟩
set_option maxRecDepth 20000 in
theorem qw194 : Cond.fieldLink RX7 46 "NinePortraits$Court" "brides" "I" ∈ wA := List.mem_filter.mpr ⟨zt1 (List.mem_of_getElem? (i := 97) rfl), (by decide +kernel)⟩
set_option maxRecDepth 20000 in
theorem qw195 : Cond.fieldLink RX10 134 "NinePortraits$Court" "brides" "I" ∈ wA := List.mem_filter.mpr ⟨zt1 (List.mem_of_getElem? (i := 98) rfl), (by decide +kernel)⟩
set_option maxRecDepth 20000 in
theorem qw196 : Cond.fieldLink RX1 25 "NinePortraits$Court" "painters" "I" ∈ wA := List.mem_filter.mpr ⟨zt1 (List.mem_of_getElem? (i := 99) rfl), (by decide +kernel)⟩
set_option maxRecDepth 20000 in
theorem qw198 : Cond.fieldLink RX7 53 "NinePortraits$Court" "painters" "I" ∈ wA := List.mem_filter.mpr ⟨zt1 (List.mem_of_getElem? (i := 101) rfl), (by decide +kernel)⟩
set_option maxRecDepth 20000 in
theorem qw199 : Cond.fieldLink RX6 105 "NinePortraits$Court" "painters" "I" ∈ wA := List.mem_filter.mpr ⟨zt1 (List.mem_of_getElem? (i := 102) rfl), (by decide +kernel)⟩
set_option maxRecDepth 20000 in
theorem qw200 : Cond.fieldLink RX10 266 "NinePortraits$Court" "painters" "I" ∈ wA := List.mem_filter.mpr ⟨zt1 (List.mem_of_getElem? (i := 103) rfl), (by decide +kernel)⟩
set_option maxRecDepth 20000 in
theorem qw220 : Cond.fieldLink RX7 9 "NinePortraits$State" "pays" "[I" ∈ wA := List.mem_filter.mpr ⟨zt1 (List.mem_of_getElem? (i := 123) rfl), (by decide +kernel)⟩
set_option maxRecDepth 20000 in
theorem qw221 : Cond.fieldLink RX8 81 "NinePortraits$State" "pays" "[I" ∈ wA := List.mem_filter.mpr ⟨zt1 (List.mem_of_getElem? (i := 124) rfl), (by decide +kernel)⟩
set_option maxRecDepth 20000 in
theorem qw222 : Cond.fieldLink RX10 171 "NinePortraits$State" "pays" "[I" ∈ wA := List.mem_filter.mpr ⟨zt1 (List.mem_of_getElem? (i := 125) rfl), (by decide +kernel)⟩
set_option maxRecDepth 20000 in
theorem qw223 : Cond.fieldLink RX7 15 "NinePortraits$State" "fears" "[I" ∈ wA := List.mem_filter.mpr ⟨zt1 (List.mem_of_getElem? (i := 126) rfl), (by decide +kernel)⟩
set_option maxRecDepth 20000 in
theorem qw224 : Cond.fieldLink RX8 32 "NinePortraits$State" "fears" "[I" ∈ wA := List.mem_filter.mpr ⟨zt1 (List.mem_of_getElem? (i := 127) rfl), (by decide +kernel)⟩
set_option maxRecDepth 20000 in
theorem qw225 : Cond.fieldLink RX10 193 "NinePortraits$State" "fears" "[I" ∈ wA := List.mem_filter.mpr ⟨zt1 (List.mem_of_getElem? (i := 128) rfl), (by decide +kernel)⟩
set_option maxRecDepth 20000 in
theorem qw226 : Cond.fieldLink RX7 18 "NinePortraits$State" "portraits" "[I" ∈ wA := List.mem_filter.mpr ⟨zt1 (List.mem_of_getElem? (i := 129) rfl), (by decide +kernel)⟩
set_option maxRecDepth 20000 in
theorem qw227 : Cond.fieldLink RX7 25 "NinePortraits$State" "painted" "I" ∈ wA := List.mem_filter.mpr ⟨zt1 (List.mem_of_getElem? (i := 130) rfl), (by decide +kernel)⟩
set_option maxRecDepth 20000 in
theorem qw228 : Cond.fieldLink RX6 59 "NinePortraits$State" "painted" "I" ∈ wA := List.mem_filter.mpr ⟨zt1 (List.mem_of_getElem? (i := 131) rfl), (by decide +kernel)⟩
set_option maxRecDepth 20000 in
theorem qw229 : Cond.fieldLink RX10 216 "NinePortraits$State" "painted" "I" ∈ wA := List.mem_filter.mpr ⟨zt1 (List.mem_of_getElem? (i := 132) rfl), (by decide +kernel)⟩
set_option maxRecDepth 20000 in
theorem qw230 : Cond.fieldLink RX7 28 "NinePortraits$State" "letters" "I" ∈ wA := List.mem_filter.mpr ⟨zt1 (List.mem_of_getElem? (i := 133) rfl), (by decide +kernel)⟩
set_option maxRecDepth 20000 in
theorem qw231 : Cond.fieldLink RX6 43 "NinePortraits$State" "letters" "I" ∈ wA := List.mem_filter.mpr ⟨zt1 (List.mem_of_getElem? (i := 134) rfl), (by decide +kernel)⟩
set_option maxRecDepth 20000 in
theorem qw232 : Cond.fieldLink RX10 174 "NinePortraits$State" "letters" "I" ∈ wA := List.mem_filter.mpr ⟨zt1 (List.mem_of_getElem? (i := 135) rfl), (by decide +kernel)⟩
set_option maxRecDepth 20000 in
theorem qw233 : Cond.fieldLink RX7 31 "NinePortraits$State" "shoes" "I" ∈ wA := List.mem_filter.mpr ⟨zt1 (List.mem_of_getElem? (i := 136) rfl), (by decide +kernel)⟩
set_option maxRecDepth 20000 in
theorem qw234 : Cond.fieldLink RX6 53 "NinePortraits$State" "shoes" "I" ∈ wA := List.mem_filter.mpr ⟨zt1 (List.mem_of_getElem? (i := 137) rfl), (by decide +kernel)⟩
set_option maxRecDepth 20000 in
theorem qw235 : Cond.fieldLink RX10 181 "NinePortraits$State" "shoes" "I" ∈ wA := List.mem_filter.mpr ⟨zt1 (List.mem_of_getElem? (i := 138) rfl), (by decide +kernel)⟩
set_option maxRecDepth 20000 in
theorem qw236 : Cond.fieldLink RX7 21 "NinePortraits$State" "wed" "I" ∈ wA := List.mem_filter.mpr ⟨zt1 (List.mem_of_getElem? (i := 139) rfl), (by decide +kernel)⟩
set_option maxRecDepth 20000 in
theorem qw237 : Cond.fieldLink RX10 237 "NinePortraits$State" "wed" "I" ∈ wA := List.mem_filter.mpr ⟨zt1 (List.mem_of_getElem? (i := 140) rfl), (by decide +kernel)⟩
set_option maxRecDepth 20000 in
theorem qw238 : Cond.fieldLink RX7 40 "NinePortraits$State" "purse" "I" ∈ wA := List.mem_filter.mpr ⟨zt1 (List.mem_of_getElem? (i := 141) rfl), (by decide +kernel)⟩
set_option maxRecDepth 20000 in
theorem qw239 : Cond.fieldLink RX10 145 "NinePortraits$State" "purse" "I" ∈ wA := List.mem_filter.mpr ⟨zt1 (List.mem_of_getElem? (i := 142) rfl), (by decide +kernel)⟩
set_option maxRecDepth 20000 in
theorem qw240 : Cond.fieldLink RX7 43 "NinePortraits$State" "month" "I" ∈ wA := List.mem_filter.mpr ⟨zt1 (List.mem_of_getElem? (i := 143) rfl), (by decide +kernel)⟩
set_option maxRecDepth 20000 in
theorem qw241 : Cond.fieldLink RX8 59 "NinePortraits$State" "month" "I" ∈ wA := List.mem_filter.mpr ⟨zt1 (List.mem_of_getElem? (i := 144) rfl), (by decide +kernel)⟩
set_option maxRecDepth 20000 in
theorem qw242 : Cond.fieldLink RX10 248 "NinePortraits$State" "month" "I" ∈ wA := List.mem_filter.mpr ⟨zt1 (List.mem_of_getElem? (i := 145) rfl), (by decide +kernel)⟩
set_option maxRecDepth 20000 in
theorem qw268 : Cond.fieldLink RX0 11 "NinePortraits$Acts" "rows" "[I" ∈ wA := List.mem_filter.mpr ⟨zt1 (List.mem_of_getElem? (i := 171) rfl), (by decide +kernel)⟩
set_option maxRecDepth 20000 in
theorem qw269 : Cond.fieldLink RX0 17 "NinePortraits$Acts" "place" "I" ∈ wA := List.mem_filter.mpr ⟨zt1 (List.mem_of_getElem? (i := 172) rfl), (by decide +kernel)⟩
set_option maxRecDepth 20000 in
theorem qw270 : Cond.fieldLink RX0 25 "NinePortraits$Acts" "count" "I" ∈ wA := List.mem_filter.mpr ⟨zt1 (List.mem_of_getElem? (i := 173) rfl), (by decide +kernel)⟩
set_option maxRecDepth 20000 in
theorem qw271 : Cond.fieldLink RX10 276 "NinePortraits$Acts" "count" "I" ∈ wA := List.mem_filter.mpr ⟨zt1 (List.mem_of_getElem? (i := 174) rfl), (by decide +kernel)⟩
set_option maxRecDepth 20000 in
theorem qw286 : Cond.fieldLink RX10 321 "NinePortraits$Studio" "oneLooks" "[I" ∈ wA := List.mem_filter.mpr ⟨zt1 (List.mem_of_getElem? (i := 189) rfl), (by decide +kernel)⟩
set_option maxRecDepth 20000 in
theorem qw288 : Cond.fieldLink RX10 328 "NinePortraits$Studio" "otherLooks" "[I" ∈ wA := List.mem_filter.mpr ⟨zt1 (List.mem_of_getElem? (i := 191) rfl), (by decide +kernel)⟩
set_option maxRecDepth 20000 in
theorem qw289 : Cond.fieldLink RX8 24 "NinePortraits$Studio" "court" "LNinePortraits$Court;" ∈ wA := List.mem_filter.mpr ⟨zt1 (List.mem_of_getElem? (i := 192) rfl), (by decide +kernel)⟩
set_option maxRecDepth 20000 in
theorem qw290 : Cond.fieldLink RX8 28 "NinePortraits$Studio" "state" "LNinePortraits$State;" ∈ wA := List.mem_filter.mpr ⟨zt1 (List.mem_of_getElem? (i := 193) rfl), (by decide +kernel)⟩
set_option maxRecDepth 20000 in
theorem qw291 : Cond.fieldLink RX8 18 "NinePortraits$Studio" "letters" "[I" ∈ wA := List.mem_filter.mpr ⟨zt1 (List.mem_of_getElem? (i := 194) rfl), (by decide +kernel)⟩
set_option maxRecDepth 20000 in
theorem qw292 : Cond.fieldLink RX8 21 "NinePortraits$Studio" "stack" "[I" ∈ wA := List.mem_filter.mpr ⟨zt1 (List.mem_of_getElem? (i := 195) rfl), (by decide +kernel)⟩
set_option maxRecDepth 20000 in
theorem qw293 : Cond.fieldLink RX8 52 "NinePortraits$Studio" "law" "LNinePortraits$Law;" ∈ wA := List.mem_filter.mpr ⟨zt1 (List.mem_of_getElem? (i := 196) rfl), (by decide +kernel)⟩
set_option maxRecDepth 20000 in
theorem qw316 : Cond.fieldLink RX6 25 "NinePortraits$Mind" "court" "LNinePortraits$Court;" ∈ wA := List.mem_filter.mpr ⟨zt1 (List.mem_of_getElem? (i := 219) rfl), (by decide +kernel)⟩
set_option maxRecDepth 20000 in
theorem qw317 : Cond.fieldLink RX6 29 "NinePortraits$Mind" "state" "LNinePortraits$State;" ∈ wA := List.mem_filter.mpr ⟨zt1 (List.mem_of_getElem? (i := 220) rfl), (by decide +kernel)⟩
set_option maxRecDepth 20000 in
theorem qw318 : Cond.fieldLink RX6 33 "NinePortraits$Mind" "studio" "LNinePortraits$Studio;" ∈ wA := List.mem_filter.mpr ⟨zt1 (List.mem_of_getElem? (i := 221) rfl), (by decide +kernel)⟩
set_option maxRecDepth 20000 in
theorem qw319 : Cond.fieldLink RX6 9 "NinePortraits$Mind" "weights" "[J" ∈ wA := List.mem_filter.mpr ⟨zt1 (List.mem_of_getElem? (i := 222) rfl), (by decide +kernel)⟩
set_option maxRecDepth 20000 in
theorem qw320 : Cond.fieldLink RX6 73 "NinePortraits$Mind" "total" "J" ∈ wA := List.mem_filter.mpr ⟨zt1 (List.mem_of_getElem? (i := 223) rfl), (by decide +kernel)⟩
set_option maxRecDepth 20000 in
theorem qw321 : Cond.fieldLink RX6 77 "NinePortraits$Mind" "likelyFace" "I" ∈ wA := List.mem_filter.mpr ⟨zt1 (List.mem_of_getElem? (i := 224) rfl), (by decide +kernel)⟩
set_option maxRecDepth 20000 in
theorem qw322 : Cond.fieldLink RX10 291 "NinePortraits$Mind" "likelyFace" "I" ∈ wA := List.mem_filter.mpr ⟨zt1 (List.mem_of_getElem? (i := 225) rfl), (by decide +kernel)⟩
set_option maxRecDepth 20000 in
theorem qw323 : Cond.fieldLink RX6 15 "NinePortraits$Mind" "views" "[I" ∈ wA := List.mem_filter.mpr ⟨zt1 (List.mem_of_getElem? (i := 226) rfl), (by decide +kernel)⟩
set_option maxRecDepth 20000 in
theorem qw324 : Cond.fieldLink RX6 19 "NinePortraits$Mind" "alike" "[I" ∈ wA := List.mem_filter.mpr ⟨zt1 (List.mem_of_getElem? (i := 227) rfl), (by decide +kernel)⟩
set_option maxRecDepth 20000 in
theorem qw325 : Cond.fieldLink RX6 22 "NinePortraits$Mind" "tellers" "[I" ∈ wA := List.mem_filter.mpr ⟨zt1 (List.mem_of_getElem? (i := 228) rfl), (by decide +kernel)⟩
set_option maxRecDepth 20000 in
theorem qw352 : Cond.fieldLink RX3 7 "NinePortraits$Draws" "x" "J" ∈ wA := List.mem_filter.mpr ⟨zt2 (List.mem_of_getElem? (i := 15) rfl), (by decide +kernel)⟩
set_option maxRecDepth 20000 in
theorem qw356 : Cond.fieldLink RX10 10 "NinePortraits" "tape" "LNinePortraits$Tape;" ∈ wA := List.mem_filter.mpr ⟨zt2 (List.mem_of_getElem? (i := 19) rfl), (by decide +kernel)⟩
set_option maxRecDepth 20000 in
theorem qw360 : Cond.fieldLink RX10 37 "NinePortraits" "court" "LNinePortraits$Court;" ∈ wA := List.mem_filter.mpr ⟨zt2 (List.mem_of_getElem? (i := 23) rfl), (by decide +kernel)⟩
set_option maxRecDepth 20000 in
theorem qw362 : Cond.fieldLink RX10 49 "NinePortraits" "state" "LNinePortraits$State;" ∈ wA := List.mem_filter.mpr ⟨zt2 (List.mem_of_getElem? (i := 25) rfl), (by decide +kernel)⟩
set_option maxRecDepth 20000 in
theorem qw363 : Cond.fieldLink RX10 53 "NinePortraits" "kept" "LNinePortraits$State;" ∈ wA := List.mem_filter.mpr ⟨zt2 (List.mem_of_getElem? (i := 26) rfl), (by decide +kernel)⟩
set_option maxRecDepth 20000 in
theorem qw364 : Cond.fieldLink RX10 59 "NinePortraits" "acts" "LNinePortraits$Acts;" ∈ wA := List.mem_filter.mpr ⟨zt2 (List.mem_of_getElem? (i := 27) rfl), (by decide +kernel)⟩
set_option maxRecDepth 20000 in
theorem qw365 : Cond.fieldLink RX10 68 "NinePortraits" "studio" "LNinePortraits$Studio;" ∈ wA := List.mem_filter.mpr ⟨zt2 (List.mem_of_getElem? (i := 28) rfl), (by decide +kernel)⟩
set_option maxRecDepth 20000 in
theorem qw366 : Cond.fieldLink RX10 77 "NinePortraits" "mind" "LNinePortraits$Mind;" ∈ wA := List.mem_filter.mpr ⟨zt2 (List.mem_of_getElem? (i := 29) rfl), (by decide +kernel)⟩
set_option maxRecDepth 20000 in
theorem qw367 : Cond.fieldLink RX10 84 "NinePortraits" "draws" "LNinePortraits$Draws;" ∈ wA := List.mem_filter.mpr ⟨zt2 (List.mem_of_getElem? (i := 30) rfl), (by decide +kernel)⟩
set_option maxRecDepth 20000 in
theorem qw368 : Cond.fieldLink RX10 88 "NinePortraits" "refused" "[I" ∈ wA := List.mem_filter.mpr ⟨zt2 (List.mem_of_getElem? (i := 31) rfl), (by decide +kernel)⟩
set_option maxRecDepth 20000 in
theorem qw369 : Cond.fieldLink RX10 114 "NinePortraits" "lawCount" "I" ∈ wA := List.mem_filter.mpr ⟨zt2 (List.mem_of_getElem? (i := 32) rfl), (by decide +kernel)⟩
set_option maxRecDepth 20000 in
theorem qw370 : Cond.fieldLink RX10 92 "NinePortraits" "lawThatHolds" "I" ∈ wA := List.mem_filter.mpr ⟨zt2 (List.mem_of_getElem? (i := 33) rfl), (by decide +kernel)⟩
set_option maxRecDepth 20000 in
theorem qw371 : Cond.fieldLink RX10 254 "NinePortraits" "bribery" "I" ∈ wA := List.mem_filter.mpr ⟨zt2 (List.mem_of_getElem? (i := 34) rfl), (by decide +kernel)⟩
set_option maxRecDepth 20000 in
theorem qw372 : Cond.fieldLink RX10 130 "NinePortraits" "hasImage" "Z" ∈ wA := List.mem_filter.mpr ⟨zt2 (List.mem_of_getElem? (i := 35) rfl), (by decide +kernel)⟩
set_option maxRecDepth 20000 in
theorem qw412 : Cond.methodLink RX10 99 yX9_add ∈ wA := List.mem_filter.mpr ⟨zt2 (List.mem_of_getElem? (i := 75) rfl), (by decide +kernel)⟩
set_option maxRecDepth 20000 in
theorem qw413 : Cond.instanceMethod yX9_add ∈ wA := List.mem_filter.mpr ⟨zt2 (List.mem_of_getElem? (i := 76) rfl), (by decide +kernel)⟩
set_option maxRecDepth 20000 in
theorem qw414 : Cond.selects RX9 yX9_add yX9_add ∈ wA := List.mem_filter.mpr ⟨zt2 (List.mem_of_getElem? (i := 77) rfl), (by decide +kernel)⟩
set_option maxRecDepth 20000 in
theorem qw415 : Cond.code yX9_add cX9_add 4 none ∈ wA := List.mem_filter.mpr ⟨zt2 (List.mem_of_getElem? (i := 78) rfl), (by decide +kernel)⟩
set_option maxRecDepth 20000 in
theorem qw431 : Cond.static arraycopyName ∈ wA := List.mem_filter.mpr ⟨zt2 (List.mem_of_getElem? (i := 94) rfl), (by decide +kernel)⟩
set_option maxRecDepth 20000 in
theorem qw432 : Cond.native arraycopyName ∈ wA := List.mem_filter.mpr ⟨zt2 (List.mem_of_getElem? (i := 95) rfl), (by decide +kernel)⟩
set_option maxRecDepth 20000 in
theorem qw438 : Cond.instanceMethod yX9_peek ∈ wA := List.mem_filter.mpr ⟨zt2 (List.mem_of_getElem? (i := 101) rfl), (by decide +kernel)⟩
set_option maxRecDepth 20000 in
theorem qw439 : Cond.selects RX9 yX9_peek yX9_peek ∈ wA := List.mem_filter.mpr ⟨zt2 (List.mem_of_getElem? (i := 102) rfl), (by decide +kernel)⟩
set_option maxRecDepth 20000 in
theorem qw440 : Cond.code yX9_peek cX9_peek 1 (some .int) ∈ wA := List.mem_filter.mpr ⟨zt2 (List.mem_of_getElem? (i := 103) rfl), (by decide +kernel)⟩
set_option maxRecDepth 20000 in
theorem qw453 : Cond.static yX10_bit ∈ wA := List.mem_filter.mpr ⟨zt2 (List.mem_of_getElem? (i := 116) rfl), (by decide +kernel)⟩
set_option maxRecDepth 20000 in
theorem qw454 : Cond.code yX10_bit cX10_bit 2 (some .int) ∈ wA := List.mem_filter.mpr ⟨zt2 (List.mem_of_getElem? (i := 117) rfl), (by decide +kernel)⟩
set_option maxRecDepth 20000 in
theorem qw475 : Cond.methodLink RX9 22 yX9_peek ∈ wA := List.mem_filter.mpr ⟨zt2 (List.mem_of_getElem? (i := 138) rfl), (by decide +kernel)⟩
set_option maxRecDepth 20000 in
theorem qw532 : Cond.methodLink RX7 34 yX1_firstPurse ∈ wA := List.mem_filter.mpr ⟨zt2 (List.mem_of_getElem? (i := 195) rfl), (by decide +kernel)⟩
set_option maxRecDepth 20000 in
theorem qw533 : Cond.instanceMethod yX1_firstPurse ∈ wA := List.mem_filter.mpr ⟨zt2 (List.mem_of_getElem? (i := 196) rfl), (by decide +kernel)⟩
set_option maxRecDepth 20000 in
theorem qw534 : Cond.selects RX1 yX1_firstPurse yX1_firstPurse ∈ wA := List.mem_filter.mpr ⟨zt2 (List.mem_of_getElem? (i := 197) rfl), (by decide +kernel)⟩
set_option maxRecDepth 20000 in
theorem qw535 : Cond.code yX1_firstPurse cX1_firstPurse 1 (some .int) ∈ wA := List.mem_filter.mpr ⟨zt2 (List.mem_of_getElem? (i := 198) rfl), (by decide +kernel)⟩
set_option maxRecDepth 20000 in
theorem qw536 : Cond.methodLink RX7 49 yX1_ofBride ∈ wA := List.mem_filter.mpr ⟨zt2 (List.mem_of_getElem? (i := 199) rfl), (by decide +kernel)⟩
set_option maxRecDepth 20000 in
theorem qw537 : Cond.instanceMethod yX1_ofBride ∈ wA := List.mem_filter.mpr ⟨zt2 (List.mem_of_getElem? (i := 200) rfl), (by decide +kernel)⟩
set_option maxRecDepth 20000 in
theorem qw538 : Cond.selects RX1 yX1_ofBride yX1_ofBride ∈ wA := List.mem_filter.mpr ⟨zt2 (List.mem_of_getElem? (i := 201) rfl), (by decide +kernel)⟩
set_option maxRecDepth 20000 in
theorem qw539 : Cond.code yX1_ofBride cX1_ofBride 3 (some .int) ∈ wA := List.mem_filter.mpr ⟨zt2 (List.mem_of_getElem? (i := 202) rfl), (by decide +kernel)⟩
set_option maxRecDepth 20000 in
theorem qw540 : Cond.methodLink RX7 56 yX1_ofPainter ∈ wA := List.mem_filter.mpr ⟨zt2 (List.mem_of_getElem? (i := 203) rfl), (by decide +kernel)⟩
set_option maxRecDepth 20000 in
theorem qw541 : Cond.instanceMethod yX1_ofPainter ∈ wA := List.mem_filter.mpr ⟨zt2 (List.mem_of_getElem? (i := 204) rfl), (by decide +kernel)⟩
set_option maxRecDepth 20000 in
theorem qw542 : Cond.selects RX1 yX1_ofPainter yX1_ofPainter ∈ wA := List.mem_filter.mpr ⟨zt2 (List.mem_of_getElem? (i := 205) rfl), (by decide +kernel)⟩
set_option maxRecDepth 20000 in
theorem qw543 : Cond.code yX1_ofPainter cX1_ofPainter 3 (some .int) ∈ wA := List.mem_filter.mpr ⟨zt2 (List.mem_of_getElem? (i := 206) rfl), (by decide +kernel)⟩
set_option maxRecDepth 20000 in
theorem qw544 : Cond.methodLink RX10 127 yX0_forget ∈ wA := List.mem_filter.mpr ⟨zt2 (List.mem_of_getElem? (i := 207) rfl), (by decide +kernel)⟩
set_option maxRecDepth 20000 in
theorem qw545 : Cond.instanceMethod yX0_forget ∈ wA := List.mem_filter.mpr ⟨zt2 (List.mem_of_getElem? (i := 208) rfl), (by decide +kernel)⟩
set_option maxRecDepth 20000 in
theorem qw546 : Cond.selects RX0 yX0_forget yX0_forget ∈ wA := List.mem_filter.mpr ⟨zt2 (List.mem_of_getElem? (i := 209) rfl), (by decide +kernel)⟩
set_option maxRecDepth 20000 in
theorem qw547 : Cond.code yX0_forget cX0_forget 1 none ∈ wA := List.mem_filter.mpr ⟨zt2 (List.mem_of_getElem? (i := 210) rfl), (by decide +kernel)⟩
set_option maxRecDepth 20000 in
theorem qw569 : Cond.static Lib.Math.min.name ∈ wA := List.mem_filter.mpr ⟨zt2 (List.mem_of_getElem? (i := 232) rfl), (by decide +kernel)⟩
set_option maxRecDepth 20000 in
theorem qw570 : Cond.code Lib.Math.min.name Lib.Math.min.code 2 (some .int) ∈ wA := List.mem_filter.mpr ⟨zt2 (List.mem_of_getElem? (i := 233) rfl), (by decide +kernel)⟩
set_option maxRecDepth 20000 in
theorem qw576 : Cond.fieldLink RX4 7 "NinePortraits$Law" "steps" "[I" ∈ wA := List.mem_filter.mpr ⟨zt2 (List.mem_of_getElem? (i := 239) rfl), (by decide +kernel)⟩
set_option maxRecDepth 20000 in
theorem qw584 : Cond.methodLink RX10 141 yX10_hasCourt ∈ wA := List.mem_filter.mpr ⟨zt3 (List.mem_of_getElem? (i := 7) rfl), (by decide +kernel)⟩
set_option maxRecDepth 20000 in
theorem qw586 : Cond.instanceMethod yX10_hasCourt ∈ wA := List.mem_filter.mpr ⟨zt3 (List.mem_of_getElem? (i := 9) rfl), (by decide +kernel)⟩
set_option maxRecDepth 20000 in
theorem qw587 : Cond.code yX10_hasCourt cX10_hasCourt 1 (some .boolean) ∈ wA := List.mem_filter.mpr ⟨zt3 (List.mem_of_getElem? (i := 10) rfl), (by decide +kernel)⟩
set_option maxRecDepth 20000 in
theorem qw588 : Cond.methodLink RX10 148 yX1_wantOfFace ∈ wA := List.mem_filter.mpr ⟨zt3 (List.mem_of_getElem? (i := 11) rfl), (by decide +kernel)⟩
set_option maxRecDepth 20000 in
theorem qw589 : Cond.instanceMethod yX1_wantOfFace ∈ wA := List.mem_filter.mpr ⟨zt3 (List.mem_of_getElem? (i := 12) rfl), (by decide +kernel)⟩
set_option maxRecDepth 20000 in
theorem qw590 : Cond.selects RX1 yX1_wantOfFace yX1_wantOfFace ∈ wA := List.mem_filter.mpr ⟨zt3 (List.mem_of_getElem? (i := 13) rfl), (by decide +kernel)⟩
set_option maxRecDepth 20000 in
theorem qw591 : Cond.code yX1_wantOfFace cX1_wantOfFace 1 (some .int) ∈ wA := List.mem_filter.mpr ⟨zt3 (List.mem_of_getElem? (i := 14) rfl), (by decide +kernel)⟩
set_option maxRecDepth 20000 in
theorem qw592 : Cond.methodLink RX10 151 yX1_wantOfDowry ∈ wA := List.mem_filter.mpr ⟨zt3 (List.mem_of_getElem? (i := 15) rfl), (by decide +kernel)⟩
set_option maxRecDepth 20000 in
theorem qw593 : Cond.instanceMethod yX1_wantOfDowry ∈ wA := List.mem_filter.mpr ⟨zt3 (List.mem_of_getElem? (i := 16) rfl), (by decide +kernel)⟩
set_option maxRecDepth 20000 in
theorem qw594 : Cond.selects RX1 yX1_wantOfDowry yX1_wantOfDowry ∈ wA := List.mem_filter.mpr ⟨zt3 (List.mem_of_getElem? (i := 17) rfl), (by decide +kernel)⟩
set_option maxRecDepth 20000 in
theorem qw595 : Cond.code yX1_wantOfDowry cX1_wantOfDowry 1 (some .int) ∈ wA := List.mem_filter.mpr ⟨zt3 (List.mem_of_getElem? (i := 18) rfl), (by decide +kernel)⟩
set_option maxRecDepth 20000 in
theorem qw600 : Cond.methodLink RX10 184 yX10_isPainter ∈ wA := List.mem_filter.mpr ⟨zt3 (List.mem_of_getElem? (i := 23) rfl), (by decide +kernel)⟩
set_option maxRecDepth 20000 in
theorem qw602 : Cond.instanceMethod yX10_isPainter ∈ wA := List.mem_filter.mpr ⟨zt3 (List.mem_of_getElem? (i := 25) rfl), (by decide +kernel)⟩
set_option maxRecDepth 20000 in
theorem qw603 : Cond.code yX10_isPainter cX10_isPainter 2 (some .boolean) ∈ wA := List.mem_filter.mpr ⟨zt3 (List.mem_of_getElem? (i := 26) rfl), (by decide +kernel)⟩
set_option maxRecDepth 20000 in
theorem qw604 : Cond.methodLink RX10 187 yX1_skillOf ∈ wA := List.mem_filter.mpr ⟨zt3 (List.mem_of_getElem? (i := 27) rfl), (by decide +kernel)⟩
set_option maxRecDepth 20000 in
theorem qw605 : Cond.instanceMethod yX1_skillOf ∈ wA := List.mem_filter.mpr ⟨zt3 (List.mem_of_getElem? (i := 28) rfl), (by decide +kernel)⟩
set_option maxRecDepth 20000 in
theorem qw606 : Cond.selects RX1 yX1_skillOf yX1_skillOf ∈ wA := List.mem_filter.mpr ⟨zt3 (List.mem_of_getElem? (i := 29) rfl), (by decide +kernel)⟩
set_option maxRecDepth 20000 in
theorem qw607 : Cond.code yX1_skillOf cX1_skillOf 2 (some .int) ∈ wA := List.mem_filter.mpr ⟨zt3 (List.mem_of_getElem? (i := 30) rfl), (by decide +kernel)⟩
set_option maxRecDepth 20000 in
theorem qw608 : Cond.methodLink RX1 38 yX1_ofPainter ∈ wA := List.mem_filter.mpr ⟨zt3 (List.mem_of_getElem? (i := 31) rfl), (by decide +kernel)⟩
set_option maxRecDepth 20000 in
theorem qw609 : Cond.methodLink RX10 190 yX1_feeOf ∈ wA := List.mem_filter.mpr ⟨zt3 (List.mem_of_getElem? (i := 32) rfl), (by decide +kernel)⟩
set_option maxRecDepth 20000 in
theorem qw610 : Cond.instanceMethod yX1_feeOf ∈ wA := List.mem_filter.mpr ⟨zt3 (List.mem_of_getElem? (i := 33) rfl), (by decide +kernel)⟩
set_option maxRecDepth 20000 in
theorem qw611 : Cond.selects RX1 yX1_feeOf yX1_feeOf ∈ wA := List.mem_filter.mpr ⟨zt3 (List.mem_of_getElem? (i := 34) rfl), (by decide +kernel)⟩
set_option maxRecDepth 20000 in
theorem qw612 : Cond.code yX1_feeOf cX1_feeOf 2 (some .int) ∈ wA := List.mem_filter.mpr ⟨zt3 (List.mem_of_getElem? (i := 35) rfl), (by decide +kernel)⟩
set_option maxRecDepth 20000 in
theorem qw613 : Cond.methodLink RX10 196 yX1_kindOf ∈ wA := List.mem_filter.mpr ⟨zt3 (List.mem_of_getElem? (i := 36) rfl), (by decide +kernel)⟩
set_option maxRecDepth 20000 in
theorem qw614 : Cond.instanceMethod yX1_kindOf ∈ wA := List.mem_filter.mpr ⟨zt3 (List.mem_of_getElem? (i := 37) rfl), (by decide +kernel)⟩
set_option maxRecDepth 20000 in
theorem qw615 : Cond.selects RX1 yX1_kindOf yX1_kindOf ∈ wA := List.mem_filter.mpr ⟨zt3 (List.mem_of_getElem? (i := 38) rfl), (by decide +kernel)⟩
set_option maxRecDepth 20000 in
theorem qw616 : Cond.code yX1_kindOf cX1_kindOf 2 (some .int) ∈ wA := List.mem_filter.mpr ⟨zt3 (List.mem_of_getElem? (i := 39) rfl), (by decide +kernel)⟩
set_option maxRecDepth 20000 in
theorem qw625 : Cond.methodLink RX10 154 yX10_isBride ∈ wA := List.mem_filter.mpr ⟨zt3 (List.mem_of_getElem? (i := 48) rfl), (by decide +kernel)⟩
set_option maxRecDepth 20000 in
theorem qw627 : Cond.instanceMethod yX10_isBride ∈ wA := List.mem_filter.mpr ⟨zt3 (List.mem_of_getElem? (i := 50) rfl), (by decide +kernel)⟩
set_option maxRecDepth 20000 in
theorem qw628 : Cond.code yX10_isBride cX10_isBride 2 (some .boolean) ∈ wA := List.mem_filter.mpr ⟨zt3 (List.mem_of_getElem? (i := 51) rfl), (by decide +kernel)⟩
set_option maxRecDepth 20000 in
theorem qw629 : Cond.methodLink RX10 203 yX8_flatteryFor ∈ wA := List.mem_filter.mpr ⟨zt3 (List.mem_of_getElem? (i := 52) rfl), (by decide +kernel)⟩
set_option maxRecDepth 20000 in
theorem qw630 : Cond.instanceMethod yX8_flatteryFor ∈ wA := List.mem_filter.mpr ⟨zt3 (List.mem_of_getElem? (i := 53) rfl), (by decide +kernel)⟩
set_option maxRecDepth 20000 in
theorem qw631 : Cond.selects RX8 yX8_flatteryFor yX8_flatteryFor ∈ wA := List.mem_filter.mpr ⟨zt3 (List.mem_of_getElem? (i := 54) rfl), (by decide +kernel)⟩
set_option maxRecDepth 20000 in
theorem qw632 : Cond.code yX8_flatteryFor cX8_flatteryFor 3 (some .int) ∈ wA := List.mem_filter.mpr ⟨zt3 (List.mem_of_getElem? (i := 55) rfl), (by decide +kernel)⟩
set_option maxRecDepth 20000 in
theorem qw633 : Cond.methodLink RX8 37 Lib.Math.max.name ∈ wA := List.mem_filter.mpr ⟨zt3 (List.mem_of_getElem? (i := 56) rfl), (by decide +kernel)⟩
set_option maxRecDepth 20000 in
theorem qw634 : Cond.static Lib.Math.max.name ∈ wA := List.mem_filter.mpr ⟨zt3 (List.mem_of_getElem? (i := 57) rfl), (by decide +kernel)⟩
set_option maxRecDepth 20000 in
theorem qw635 : Cond.code Lib.Math.max.name Lib.Math.max.code 2 (some .int) ∈ wA := List.mem_filter.mpr ⟨zt3 (List.mem_of_getElem? (i := 58) rfl), (by decide +kernel)⟩
set_option maxRecDepth 20000 in
theorem qw640 : Cond.methodLink RX10 206 yX10_isFace ∈ wA := List.mem_filter.mpr ⟨zt3 (List.mem_of_getElem? (i := 63) rfl), (by decide +kernel)⟩
set_option maxRecDepth 20000 in
theorem qw641 : Cond.static yX10_isFace ∈ wA := List.mem_filter.mpr ⟨zt3 (List.mem_of_getElem? (i := 64) rfl), (by decide +kernel)⟩
set_option maxRecDepth 20000 in
theorem qw642 : Cond.code yX10_isFace cX10_isFace 1 (some .boolean) ∈ wA := List.mem_filter.mpr ⟨zt3 (List.mem_of_getElem? (i := 65) rfl), (by decide +kernel)⟩
set_option maxRecDepth 20000 in
theorem qw643 : Cond.methodLink RX10 209 yX8_showOf ∈ wA := List.mem_filter.mpr ⟨zt3 (List.mem_of_getElem? (i := 66) rfl), (by decide +kernel)⟩
set_option maxRecDepth 20000 in
theorem qw644 : Cond.instanceMethod yX8_showOf ∈ wA := List.mem_filter.mpr ⟨zt3 (List.mem_of_getElem? (i := 67) rfl), (by decide +kernel)⟩
set_option maxRecDepth 20000 in
theorem qw645 : Cond.selects RX8 yX8_showOf yX8_showOf ∈ wA := List.mem_filter.mpr ⟨zt3 (List.mem_of_getElem? (i := 68) rfl), (by decide +kernel)⟩
set_option maxRecDepth 20000 in
theorem qw646 : Cond.code yX8_showOf cX8_showOf 7 (some .int) ∈ wA := List.mem_filter.mpr ⟨zt3 (List.mem_of_getElem? (i := 69) rfl), (by decide +kernel)⟩
set_option maxRecDepth 20000 in
theorem qw647 : Cond.methodLink RX8 72 yX1_kindOf ∈ wA := List.mem_filter.mpr ⟨zt3 (List.mem_of_getElem? (i := 70) rfl), (by decide +kernel)⟩
set_option maxRecDepth 20000 in
theorem qw648 : Cond.methodLink RX8 75 yX7_latestBy ∈ wA := List.mem_filter.mpr ⟨zt3 (List.mem_of_getElem? (i := 71) rfl), (by decide +kernel)⟩
set_option maxRecDepth 20000 in
theorem qw649 : Cond.instanceMethod yX7_latestBy ∈ wA := List.mem_filter.mpr ⟨zt3 (List.mem_of_getElem? (i := 72) rfl), (by decide +kernel)⟩
set_option maxRecDepth 20000 in
theorem qw650 : Cond.selects RX7 yX7_latestBy yX7_latestBy ∈ wA := List.mem_filter.mpr ⟨zt3 (List.mem_of_getElem? (i := 73) rfl), (by decide +kernel)⟩
set_option maxRecDepth 20000 in
theorem qw651 : Cond.code yX7_latestBy cX7_latestBy 3 (some .int) ∈ wA := List.mem_filter.mpr ⟨zt3 (List.mem_of_getElem? (i := 74) rfl), (by decide +kernel)⟩
set_option maxRecDepth 20000 in
theorem qw652 : Cond.methodLink RX7 70 yX7_ofPortrait ∈ wA := List.mem_filter.mpr ⟨zt3 (List.mem_of_getElem? (i := 75) rfl), (by decide +kernel)⟩
set_option maxRecDepth 20000 in
theorem qw653 : Cond.instanceMethod yX7_ofPortrait ∈ wA := List.mem_filter.mpr ⟨zt3 (List.mem_of_getElem? (i := 76) rfl), (by decide +kernel)⟩
set_option maxRecDepth 20000 in
theorem qw654 : Cond.selects RX7 yX7_ofPortrait yX7_ofPortrait ∈ wA := List.mem_filter.mpr ⟨zt3 (List.mem_of_getElem? (i := 77) rfl), (by decide +kernel)⟩
set_option maxRecDepth 20000 in
theorem qw655 : Cond.code yX7_ofPortrait cX7_ofPortrait 3 (some .int) ∈ wA := List.mem_filter.mpr ⟨zt3 (List.mem_of_getElem? (i := 78) rfl), (by decide +kernel)⟩
set_option maxRecDepth 20000 in
theorem qw656 : Cond.methodLink RX8 78 yX7_ofPortrait ∈ wA := List.mem_filter.mpr ⟨zt3 (List.mem_of_getElem? (i := 79) rfl), (by decide +kernel)⟩
set_option maxRecDepth 20000 in
theorem qw657 : Cond.methodLink RX8 84 yX8_lookOf ∈ wA := List.mem_filter.mpr ⟨zt3 (List.mem_of_getElem? (i := 80) rfl), (by decide +kernel)⟩
set_option maxRecDepth 20000 in
theorem qw658 : Cond.instanceMethod yX8_lookOf ∈ wA := List.mem_filter.mpr ⟨zt3 (List.mem_of_getElem? (i := 81) rfl), (by decide +kernel)⟩
set_option maxRecDepth 20000 in
theorem qw659 : Cond.selects RX8 yX8_lookOf yX8_lookOf ∈ wA := List.mem_filter.mpr ⟨zt3 (List.mem_of_getElem? (i := 82) rfl), (by decide +kernel)⟩
set_option maxRecDepth 20000 in
theorem qw660 : Cond.code yX8_lookOf cX8_lookOf 6 (some .int) ∈ wA := List.mem_filter.mpr ⟨zt3 (List.mem_of_getElem? (i := 83) rfl), (by decide +kernel)⟩
set_option maxRecDepth 20000 in
theorem qw661 : Cond.methodLink RX8 43 yX8_flatteryFor ∈ wA := List.mem_filter.mpr ⟨zt3 (List.mem_of_getElem? (i := 84) rfl), (by decide +kernel)⟩
set_option maxRecDepth 20000 in
theorem qw662 : Cond.methodLink RX8 46 yX1_wartsOf ∈ wA := List.mem_filter.mpr ⟨zt3 (List.mem_of_getElem? (i := 85) rfl), (by decide +kernel)⟩
set_option maxRecDepth 20000 in
theorem qw663 : Cond.instanceMethod yX1_wartsOf ∈ wA := List.mem_filter.mpr ⟨zt3 (List.mem_of_getElem? (i := 86) rfl), (by decide +kernel)⟩
set_option maxRecDepth 20000 in
theorem qw664 : Cond.selects RX1 yX1_wartsOf yX1_wartsOf ∈ wA := List.mem_filter.mpr ⟨zt3 (List.mem_of_getElem? (i := 87) rfl), (by decide +kernel)⟩
set_option maxRecDepth 20000 in
theorem qw665 : Cond.code yX1_wartsOf cX1_wartsOf 2 (some .int) ∈ wA := List.mem_filter.mpr ⟨zt3 (List.mem_of_getElem? (i := 88) rfl), (by decide +kernel)⟩
set_option maxRecDepth 20000 in
theorem qw666 : Cond.methodLink RX1 34 yX1_ofBride ∈ wA := List.mem_filter.mpr ⟨zt3 (List.mem_of_getElem? (i := 89) rfl), (by decide +kernel)⟩
set_option maxRecDepth 20000 in
theorem qw667 : Cond.methodLink RX8 56 yX1_skillOf ∈ wA := List.mem_filter.mpr ⟨zt3 (List.mem_of_getElem? (i := 90) rfl), (by decide +kernel)⟩
set_option maxRecDepth 20000 in
theorem qw668 : Cond.methodLink RX8 63 yX4_answer ∈ wA := List.mem_filter.mpr ⟨zt3 (List.mem_of_getElem? (i := 91) rfl), (by decide +kernel)⟩
set_option maxRecDepth 20000 in
theorem qw669 : Cond.instanceMethod yX4_answer ∈ wA := List.mem_filter.mpr ⟨zt3 (List.mem_of_getElem? (i := 92) rfl), (by decide +kernel)⟩
set_option maxRecDepth 20000 in
theorem qw670 : Cond.selects RX4 yX4_answer yX4_answer ∈ wA := List.mem_filter.mpr ⟨zt3 (List.mem_of_getElem? (i := 93) rfl), (by decide +kernel)⟩
set_option maxRecDepth 20000 in
theorem qw671 : Cond.code yX4_answer cX4_answer 8 (some .int) ∈ wA := List.mem_filter.mpr ⟨zt3 (List.mem_of_getElem? (i := 94) rfl), (by decide +kernel)⟩
set_option maxRecDepth 20000 in
theorem qw672 : Cond.methodLink RX4 13 yX4_joined ∈ wA := List.mem_filter.mpr ⟨zt3 (List.mem_of_getElem? (i := 95) rfl), (by decide +kernel)⟩
set_option maxRecDepth 20000 in
theorem qw673 : Cond.static yX4_joined ∈ wA := List.mem_filter.mpr ⟨zt3 (List.mem_of_getElem? (i := 96) rfl), (by decide +kernel)⟩
set_option maxRecDepth 20000 in
theorem qw674 : Cond.code yX4_joined cX4_joined 5 (some .int) ∈ wA := List.mem_filter.mpr ⟨zt3 (List.mem_of_getElem? (i := 97) rfl), (by decide +kernel)⟩
set_option maxRecDepth 20000 in
theorem qw675 : Cond.constantLong RX4 17 1000000 ∈ wA := List.mem_filter.mpr ⟨zt3 (List.mem_of_getElem? (i := 98) rfl), (by decide +kernel)⟩
set_option maxRecDepth 20000 in
theorem qw676 : Cond.constant RX4 19 1000000 ∈ wA := List.mem_filter.mpr ⟨zt3 (List.mem_of_getElem? (i := 99) rfl), (by decide +kernel)⟩
set_option maxRecDepth 20000 in
theorem qw677 : Cond.constantLong RX4 20 (-1000000) ∈ wA := List.mem_filter.mpr ⟨zt3 (List.mem_of_getElem? (i := 100) rfl), (by decide +kernel)⟩
set_option maxRecDepth 20000 in
theorem qw678 : Cond.constant RX4 22 (-1000000) ∈ wA := List.mem_filter.mpr ⟨zt3 (List.mem_of_getElem? (i := 101) rfl), (by decide +kernel)⟩
set_option maxRecDepth 20000 in
theorem qw679 : Cond.methodLink RX8 69 Lib.Math.min.name ∈ wA := List.mem_filter.mpr ⟨zt3 (List.mem_of_getElem? (i := 102) rfl), (by decide +kernel)⟩
set_option maxRecDepth 20000 in
theorem qw684 : Cond.methodLink RX10 213 yX10_refuse ∈ wA := List.mem_filter.mpr ⟨zt3 (List.mem_of_getElem? (i := 107) rfl), (by decide +kernel)⟩
set_option maxRecDepth 20000 in
theorem qw686 : Cond.instanceMethod yX10_refuse ∈ wA := List.mem_filter.mpr ⟨zt3 (List.mem_of_getElem? (i := 109) rfl), (by decide +kernel)⟩
set_option maxRecDepth 20000 in
theorem qw687 : Cond.code yX10_refuse cX10_refuse 2 (some .int) ∈ wA := List.mem_filter.mpr ⟨zt3 (List.mem_of_getElem? (i := 110) rfl), (by decide +kernel)⟩
set_option maxRecDepth 20000 in
theorem qw688 : Cond.methodLink RX10 219 yX0_keep ∈ wA := List.mem_filter.mpr ⟨zt3 (List.mem_of_getElem? (i := 111) rfl), (by decide +kernel)⟩
set_option maxRecDepth 20000 in
theorem qw689 : Cond.instanceMethod yX0_keep ∈ wA := List.mem_filter.mpr ⟨zt3 (List.mem_of_getElem? (i := 112) rfl), (by decide +kernel)⟩
set_option maxRecDepth 20000 in
theorem qw690 : Cond.selects RX0 yX0_keep yX0_keep ∈ wA := List.mem_filter.mpr ⟨zt3 (List.mem_of_getElem? (i := 113) rfl), (by decide +kernel)⟩
set_option maxRecDepth 20000 in
theorem qw691 : Cond.code yX0_keep cX0_keep 2 none ∈ wA := List.mem_filter.mpr ⟨zt3 (List.mem_of_getElem? (i := 114) rfl), (by decide +kernel)⟩
set_option maxRecDepth 20000 in
theorem qw692 : Cond.methodLink RX0 21 yX7_writeRow ∈ wA := List.mem_filter.mpr ⟨zt3 (List.mem_of_getElem? (i := 115) rfl), (by decide +kernel)⟩
set_option maxRecDepth 20000 in
theorem qw693 : Cond.instanceMethod yX7_writeRow ∈ wA := List.mem_filter.mpr ⟨zt3 (List.mem_of_getElem? (i := 116) rfl), (by decide +kernel)⟩
set_option maxRecDepth 20000 in
theorem qw694 : Cond.selects RX7 yX7_writeRow yX7_writeRow ∈ wA := List.mem_filter.mpr ⟨zt3 (List.mem_of_getElem? (i := 117) rfl), (by decide +kernel)⟩
set_option maxRecDepth 20000 in
theorem qw695 : Cond.code yX7_writeRow cX7_writeRow 4 none ∈ wA := List.mem_filter.mpr ⟨zt3 (List.mem_of_getElem? (i := 118) rfl), (by decide +kernel)⟩
set_option maxRecDepth 20000 in
theorem qw696 : Cond.methodLink RX7 59 arraycopyName ∈ wA := List.mem_filter.mpr ⟨zt3 (List.mem_of_getElem? (i := 119) rfl), (by decide +kernel)⟩
set_option maxRecDepth 20000 in
theorem qw697 : Cond.methodLink RX0 28 Lib.Math.min.name ∈ wA := List.mem_filter.mpr ⟨zt3 (List.mem_of_getElem? (i := 120) rfl), (by decide +kernel)⟩
set_option maxRecDepth 20000 in
theorem qw698 : Cond.methodLink RX10 223 yX10_paintNow ∈ wA := List.mem_filter.mpr ⟨zt3 (List.mem_of_getElem? (i := 121) rfl), (by decide +kernel)⟩
set_option maxRecDepth 20000 in
theorem qw700 : Cond.instanceMethod yX10_paintNow ∈ wA := List.mem_filter.mpr ⟨zt3 (List.mem_of_getElem? (i := 123) rfl), (by decide +kernel)⟩
set_option maxRecDepth 20000 in
theorem qw701 : Cond.code yX10_paintNow cX10_paintNow 4 (some .int) ∈ wA := List.mem_filter.mpr ⟨zt3 (List.mem_of_getElem? (i := 124) rfl), (by decide +kernel)⟩
set_option maxRecDepth 20000 in
theorem qw702 : Cond.methodLink RX10 161 yX1_faceOf ∈ wA := List.mem_filter.mpr ⟨zt3 (List.mem_of_getElem? (i := 125) rfl), (by decide +kernel)⟩
set_option maxRecDepth 20000 in
theorem qw703 : Cond.instanceMethod yX1_faceOf ∈ wA := List.mem_filter.mpr ⟨zt3 (List.mem_of_getElem? (i := 126) rfl), (by decide +kernel)⟩
set_option maxRecDepth 20000 in
theorem qw704 : Cond.selects RX1 yX1_faceOf yX1_faceOf ∈ wA := List.mem_filter.mpr ⟨zt3 (List.mem_of_getElem? (i := 127) rfl), (by decide +kernel)⟩
set_option maxRecDepth 20000 in
theorem qw705 : Cond.code yX1_faceOf cX1_faceOf 2 (some .int) ∈ wA := List.mem_filter.mpr ⟨zt3 (List.mem_of_getElem? (i := 128) rfl), (by decide +kernel)⟩
set_option maxRecDepth 20000 in
theorem qw706 : Cond.methodLink RX10 226 yX7_hang ∈ wA := List.mem_filter.mpr ⟨zt3 (List.mem_of_getElem? (i := 129) rfl), (by decide +kernel)⟩
set_option maxRecDepth 20000 in
theorem qw707 : Cond.instanceMethod yX7_hang ∈ wA := List.mem_filter.mpr ⟨zt3 (List.mem_of_getElem? (i := 130) rfl), (by decide +kernel)⟩
set_option maxRecDepth 20000 in
theorem qw708 : Cond.selects RX7 yX7_hang yX7_hang ∈ wA := List.mem_filter.mpr ⟨zt3 (List.mem_of_getElem? (i := 131) rfl), (by decide +kernel)⟩
set_option maxRecDepth 20000 in
theorem qw709 : Cond.code yX7_hang cX7_hang 5 none ∈ wA := List.mem_filter.mpr ⟨zt3 (List.mem_of_getElem? (i := 132) rfl), (by decide +kernel)⟩
set_option maxRecDepth 20000 in
theorem qw714 : Cond.methodLink RX10 230 yX10_isDigit ∈ wA := List.mem_filter.mpr ⟨zt3 (List.mem_of_getElem? (i := 137) rfl), (by decide +kernel)⟩
set_option maxRecDepth 20000 in
theorem qw715 : Cond.static yX10_isDigit ∈ wA := List.mem_filter.mpr ⟨zt3 (List.mem_of_getElem? (i := 138) rfl), (by decide +kernel)⟩
set_option maxRecDepth 20000 in
theorem qw716 : Cond.code yX10_isDigit cX10_isDigit 1 (some .boolean) ∈ wA := List.mem_filter.mpr ⟨zt3 (List.mem_of_getElem? (i := 139) rfl), (by decide +kernel)⟩
set_option maxRecDepth 20000 in
theorem qw725 : Cond.methodLink RX10 233 yX10_paysToHear ∈ wA := List.mem_filter.mpr ⟨zt3 (List.mem_of_getElem? (i := 148) rfl), (by decide +kernel)⟩
set_option maxRecDepth 20000 in
theorem qw727 : Cond.instanceMethod yX10_paysToHear ∈ wA := List.mem_filter.mpr ⟨zt3 (List.mem_of_getElem? (i := 150) rfl), (by decide +kernel)⟩
set_option maxRecDepth 20000 in
theorem qw728 : Cond.code yX10_paysToHear cX10_paysToHear 5 (some .boolean) ∈ wA := List.mem_filter.mpr ⟨zt3 (List.mem_of_getElem? (i := 151) rfl), (by decide +kernel)⟩
set_option maxRecDepth 20000 in
theorem qw729 : Cond.methodLink RX10 177 yX10_bit ∈ wA := List.mem_filter.mpr ⟨zt3 (List.mem_of_getElem? (i := 152) rfl), (by decide +kernel)⟩
set_option maxRecDepth 20000 in
theorem qw738 : Cond.methodLink RX10 165 yX1_dowryOf ∈ wA := List.mem_filter.mpr ⟨zt3 (List.mem_of_getElem? (i := 161) rfl), (by decide +kernel)⟩
set_option maxRecDepth 20000 in
theorem qw739 : Cond.instanceMethod yX1_dowryOf ∈ wA := List.mem_filter.mpr ⟨zt3 (List.mem_of_getElem? (i := 162) rfl), (by decide +kernel)⟩
set_option maxRecDepth 20000 in
theorem qw740 : Cond.selects RX1 yX1_dowryOf yX1_dowryOf ∈ wA := List.mem_filter.mpr ⟨zt3 (List.mem_of_getElem? (i := 163) rfl), (by decide +kernel)⟩
set_option maxRecDepth 20000 in
theorem qw741 : Cond.code yX1_dowryOf cX1_dowryOf 2 (some .int) ∈ wA := List.mem_filter.mpr ⟨zt3 (List.mem_of_getElem? (i := 164) rfl), (by decide +kernel)⟩
set_option maxRecDepth 20000 in
theorem qw742 : Cond.methodLink RX10 240 Lib.Math.min.name ∈ wA := List.mem_filter.mpr ⟨zt3 (List.mem_of_getElem? (i := 165) rfl), (by decide +kernel)⟩
set_option maxRecDepth 20000 in
theorem qw747 : Cond.methodLink RX10 245 yX10_looked ∈ wA := List.mem_filter.mpr ⟨zt3 (List.mem_of_getElem? (i := 170) rfl), (by decide +kernel)⟩
set_option maxRecDepth 20000 in
theorem qw749 : Cond.instanceMethod yX10_looked ∈ wA := List.mem_filter.mpr ⟨zt3 (List.mem_of_getElem? (i := 172) rfl), (by decide +kernel)⟩
set_option maxRecDepth 20000 in
theorem qw750 : Cond.code yX10_looked cX10_looked 3 (some .int) ∈ wA := List.mem_filter.mpr ⟨zt3 (List.mem_of_getElem? (i := 173) rfl), (by decide +kernel)⟩
set_option maxRecDepth 20000 in
theorem qw751 : Cond.methodLink RX10 343 yX7_portraitsOf ∈ wA := List.mem_filter.mpr ⟨zt3 (List.mem_of_getElem? (i := 174) rfl), (by decide +kernel)⟩
set_option maxRecDepth 20000 in
theorem qw752 : Cond.instanceMethod yX7_portraitsOf ∈ wA := List.mem_filter.mpr ⟨zt3 (List.mem_of_getElem? (i := 175) rfl), (by decide +kernel)⟩
set_option maxRecDepth 20000 in
theorem qw753 : Cond.selects RX7 yX7_portraitsOf yX7_portraitsOf ∈ wA := List.mem_filter.mpr ⟨zt3 (List.mem_of_getElem? (i := 176) rfl), (by decide +kernel)⟩
set_option maxRecDepth 20000 in
theorem qw754 : Cond.code yX7_portraitsOf cX7_portraitsOf 4 (some .int) ∈ wA := List.mem_filter.mpr ⟨zt3 (List.mem_of_getElem? (i := 177) rfl), (by decide +kernel)⟩
set_option maxRecDepth 20000 in
theorem qw755 : Cond.methodLink RX10 379 yX7_shownTogether ∈ wA := List.mem_filter.mpr ⟨zt3 (List.mem_of_getElem? (i := 178) rfl), (by decide +kernel)⟩
set_option maxRecDepth 20000 in
theorem qw756 : Cond.instanceMethod yX7_shownTogether ∈ wA := List.mem_filter.mpr ⟨zt3 (List.mem_of_getElem? (i := 179) rfl), (by decide +kernel)⟩
set_option maxRecDepth 20000 in
theorem qw757 : Cond.selects RX7 yX7_shownTogether yX7_shownTogether ∈ wA := List.mem_filter.mpr ⟨zt3 (List.mem_of_getElem? (i := 180) rfl), (by decide +kernel)⟩
set_option maxRecDepth 20000 in
theorem qw758 : Cond.code yX7_shownTogether cX7_shownTogether 4 (some .int) ∈ wA := List.mem_filter.mpr ⟨zt3 (List.mem_of_getElem? (i := 181) rfl), (by decide +kernel)⟩
set_option maxRecDepth 20000 in
theorem qw763 : Cond.methodLink RX10 251 yX7_passMonth ∈ wA := List.mem_filter.mpr ⟨zt3 (List.mem_of_getElem? (i := 186) rfl), (by decide +kernel)⟩
set_option maxRecDepth 20000 in
theorem qw764 : Cond.instanceMethod yX7_passMonth ∈ wA := List.mem_filter.mpr ⟨zt3 (List.mem_of_getElem? (i := 187) rfl), (by decide +kernel)⟩
set_option maxRecDepth 20000 in
theorem qw765 : Cond.selects RX7 yX7_passMonth yX7_passMonth ∈ wA := List.mem_filter.mpr ⟨zt3 (List.mem_of_getElem? (i := 188) rfl), (by decide +kernel)⟩
set_option maxRecDepth 20000 in
theorem qw766 : Cond.code yX7_passMonth cX7_passMonth 1 none ∈ wA := List.mem_filter.mpr ⟨zt3 (List.mem_of_getElem? (i := 189) rfl), (by decide +kernel)⟩
set_option maxRecDepth 20000 in
theorem qw767 : Cond.methodLink RX7 65 Lib.Math.min.name ∈ wA := List.mem_filter.mpr ⟨zt3 (List.mem_of_getElem? (i := 190) rfl), (by decide +kernel)⟩
set_option maxRecDepth 20000 in
theorem qw776 : Cond.methodLink RX10 257 yX3_begin ∈ wA := List.mem_filter.mpr ⟨zt3 (List.mem_of_getElem? (i := 199) rfl), (by decide +kernel)⟩
set_option maxRecDepth 20000 in
theorem qw777 : Cond.instanceMethod yX3_begin ∈ wA := List.mem_filter.mpr ⟨zt3 (List.mem_of_getElem? (i := 200) rfl), (by decide +kernel)⟩
set_option maxRecDepth 20000 in
theorem qw778 : Cond.selects RX3 yX3_begin yX3_begin ∈ wA := List.mem_filter.mpr ⟨zt3 (List.mem_of_getElem? (i := 201) rfl), (by decide +kernel)⟩
set_option maxRecDepth 20000 in
theorem qw779 : Cond.code yX3_begin cX3_begin 3 none ∈ wA := List.mem_filter.mpr ⟨zt3 (List.mem_of_getElem? (i := 202) rfl), (by decide +kernel)⟩
set_option maxRecDepth 20000 in
theorem qw780 : Cond.methodLink RX10 260 yX10_paintByDraws ∈ wA := List.mem_filter.mpr ⟨zt3 (List.mem_of_getElem? (i := 203) rfl), (by decide +kernel)⟩
set_option maxRecDepth 20000 in
theorem qw782 : Cond.instanceMethod yX10_paintByDraws ∈ wA := List.mem_filter.mpr ⟨zt3 (List.mem_of_getElem? (i := 205) rfl), (by decide +kernel)⟩
set_option maxRecDepth 20000 in
theorem qw783 : Cond.code yX10_paintByDraws cX10_paintByDraws 3 none ∈ wA := List.mem_filter.mpr ⟨zt3 (List.mem_of_getElem? (i := 206) rfl), (by decide +kernel)⟩
set_option maxRecDepth 20000 in
theorem qw784 : Cond.methodLink RX10 269 yX3_below ∈ wA := List.mem_filter.mpr ⟨zt3 (List.mem_of_getElem? (i := 207) rfl), (by decide +kernel)⟩
set_option maxRecDepth 20000 in
theorem qw785 : Cond.instanceMethod yX3_below ∈ wA := List.mem_filter.mpr ⟨zt3 (List.mem_of_getElem? (i := 208) rfl), (by decide +kernel)⟩
set_option maxRecDepth 20000 in
theorem qw786 : Cond.selects RX3 yX3_below yX3_below ∈ wA := List.mem_filter.mpr ⟨zt3 (List.mem_of_getElem? (i := 209) rfl), (by decide +kernel)⟩
set_option maxRecDepth 20000 in
theorem qw787 : Cond.code yX3_below cX3_below 2 (some .int) ∈ wA := List.mem_filter.mpr ⟨zt3 (List.mem_of_getElem? (i := 210) rfl), (by decide +kernel)⟩
set_option maxRecDepth 20000 in
theorem qw788 : Cond.constantLong RX3 13 6364136223846793005 ∈ wA := List.mem_filter.mpr ⟨zt3 (List.mem_of_getElem? (i := 211) rfl), (by decide +kernel)⟩
set_option maxRecDepth 20000 in
theorem qw789 : Cond.constantLong RX3 15 1442695040888963407 ∈ wA := List.mem_filter.mpr ⟨zt3 (List.mem_of_getElem? (i := 212) rfl), (by decide +kernel)⟩
set_option maxRecDepth 20000 in
theorem qw790 : Cond.methodLink RX10 263 yX10_payByDraws ∈ wA := List.mem_filter.mpr ⟨zt3 (List.mem_of_getElem? (i := 213) rfl), (by decide +kernel)⟩
set_option maxRecDepth 20000 in
theorem qw792 : Cond.instanceMethod yX10_payByDraws ∈ wA := List.mem_filter.mpr ⟨zt3 (List.mem_of_getElem? (i := 215) rfl), (by decide +kernel)⟩
set_option maxRecDepth 20000 in
theorem qw793 : Cond.code yX10_payByDraws cX10_payByDraws 2 none ∈ wA := List.mem_filter.mpr ⟨zt3 (List.mem_of_getElem? (i := 216) rfl), (by decide +kernel)⟩
set_option maxRecDepth 20000 in
theorem qw802 : Cond.methodLink RX10 272 yX0_takeBack ∈ wA := List.mem_filter.mpr ⟨zt3 (List.mem_of_getElem? (i := 225) rfl), (by decide +kernel)⟩
set_option maxRecDepth 20000 in
theorem qw803 : Cond.instanceMethod yX0_takeBack ∈ wA := List.mem_filter.mpr ⟨zt3 (List.mem_of_getElem? (i := 226) rfl), (by decide +kernel)⟩
set_option maxRecDepth 20000 in
theorem qw804 : Cond.selects RX0 yX0_takeBack yX0_takeBack ∈ wA := List.mem_filter.mpr ⟨zt3 (List.mem_of_getElem? (i := 227) rfl), (by decide +kernel)⟩
set_option maxRecDepth 20000 in
theorem qw805 : Cond.code yX0_takeBack cX0_takeBack 2 (some .boolean) ∈ wA := List.mem_filter.mpr ⟨zt3 (List.mem_of_getElem? (i := 228) rfl), (by decide +kernel)⟩
set_option maxRecDepth 20000 in
theorem qw806 : Cond.methodLink RX0 34 yX7_readRow ∈ wA := List.mem_filter.mpr ⟨zt3 (List.mem_of_getElem? (i := 229) rfl), (by decide +kernel)⟩
set_option maxRecDepth 20000 in
theorem qw807 : Cond.instanceMethod yX7_readRow ∈ wA := List.mem_filter.mpr ⟨zt3 (List.mem_of_getElem? (i := 230) rfl), (by decide +kernel)⟩
set_option maxRecDepth 20000 in
theorem qw808 : Cond.selects RX7 yX7_readRow yX7_readRow ∈ wA := List.mem_filter.mpr ⟨zt3 (List.mem_of_getElem? (i := 231) rfl), (by decide +kernel)⟩
set_option maxRecDepth 20000 in
theorem qw809 : Cond.code yX7_readRow cX7_readRow 4 none ∈ wA := List.mem_filter.mpr ⟨zt3 (List.mem_of_getElem? (i := 232) rfl), (by decide +kernel)⟩
set_option maxRecDepth 20000 in
theorem qw814 : Cond.methodLink RX10 279 yX7_ofPortrait ∈ wA := List.mem_filter.mpr ⟨zt3 (List.mem_of_getElem? (i := 237) rfl), (by decide +kernel)⟩
set_option maxRecDepth 20000 in
theorem qw819 : Cond.methodLink RX10 282 yX6_fitting ∈ wA := List.mem_filter.mpr ⟨zt4 (List.mem_of_getElem? (i := 2) rfl), (by decide +kernel)⟩
set_option maxRecDepth 20000 in
theorem qw820 : Cond.instanceMethod yX6_fitting ∈ wA := List.mem_filter.mpr ⟨zt4 (List.mem_of_getElem? (i := 3) rfl), (by decide +kernel)⟩
set_option maxRecDepth 20000 in
theorem qw821 : Cond.selects RX6 yX6_fitting yX6_fitting ∈ wA := List.mem_filter.mpr ⟨zt4 (List.mem_of_getElem? (i := 4) rfl), (by decide +kernel)⟩
set_option maxRecDepth 20000 in
theorem qw822 : Cond.code yX6_fitting cX6_fitting 4 (some .int) ∈ wA := List.mem_filter.mpr ⟨zt4 (List.mem_of_getElem? (i := 5) rfl), (by decide +kernel)⟩
set_option maxRecDepth 20000 in
theorem qw823 : Cond.methodLink RX6 37 yX1_faceOf ∈ wA := List.mem_filter.mpr ⟨zt4 (List.mem_of_getElem? (i := 6) rfl), (by decide +kernel)⟩
set_option maxRecDepth 20000 in
theorem qw829 : Cond.methodLink RX10 285 yX6_weigh ∈ wA := List.mem_filter.mpr ⟨zt4 (List.mem_of_getElem? (i := 12) rfl), (by decide +kernel)⟩
set_option maxRecDepth 20000 in
theorem qw830 : Cond.instanceMethod yX6_weigh ∈ wA := List.mem_filter.mpr ⟨zt4 (List.mem_of_getElem? (i := 13) rfl), (by decide +kernel)⟩
set_option maxRecDepth 20000 in
theorem qw831 : Cond.selects RX6 yX6_weigh yX6_weigh ∈ wA := List.mem_filter.mpr ⟨zt4 (List.mem_of_getElem? (i := 14) rfl), (by decide +kernel)⟩
set_option maxRecDepth 20000 in
theorem qw832 : Cond.code yX6_weigh cX6_weigh 5 none ∈ wA := List.mem_filter.mpr ⟨zt4 (List.mem_of_getElem? (i := 15) rfl), (by decide +kernel)⟩
set_option maxRecDepth 20000 in
theorem qw833 : Cond.methodLink RX6 56 yX6_fitting ∈ wA := List.mem_filter.mpr ⟨zt4 (List.mem_of_getElem? (i := 16) rfl), (by decide +kernel)⟩
set_option maxRecDepth 20000 in
theorem qw834 : Cond.methodLink RX6 62 yX7_ofPortrait ∈ wA := List.mem_filter.mpr ⟨zt4 (List.mem_of_getElem? (i := 17) rfl), (by decide +kernel)⟩
set_option maxRecDepth 20000 in
theorem qw835 : Cond.methodLink RX6 65 yX6_sketches ∈ wA := List.mem_filter.mpr ⟨zt4 (List.mem_of_getElem? (i := 18) rfl), (by decide +kernel)⟩
set_option maxRecDepth 20000 in
theorem qw837 : Cond.instanceMethod yX6_sketches ∈ wA := List.mem_filter.mpr ⟨zt4 (List.mem_of_getElem? (i := 20) rfl), (by decide +kernel)⟩
set_option maxRecDepth 20000 in
theorem qw838 : Cond.code yX6_sketches cX6_sketches 2 (some .boolean) ∈ wA := List.mem_filter.mpr ⟨zt4 (List.mem_of_getElem? (i := 21) rfl), (by decide +kernel)⟩
set_option maxRecDepth 20000 in
theorem qw839 : Cond.methodLink RX6 102 yX1_kindOf ∈ wA := List.mem_filter.mpr ⟨zt4 (List.mem_of_getElem? (i := 22) rfl), (by decide +kernel)⟩
set_option maxRecDepth 20000 in
theorem qw840 : Cond.methodLink RX6 69 yX6_weighBy ∈ wA := List.mem_filter.mpr ⟨zt4 (List.mem_of_getElem? (i := 23) rfl), (by decide +kernel)⟩
set_option maxRecDepth 20000 in
theorem qw842 : Cond.instanceMethod yX6_weighBy ∈ wA := List.mem_filter.mpr ⟨zt4 (List.mem_of_getElem? (i := 25) rfl), (by decide +kernel)⟩
set_option maxRecDepth 20000 in
theorem qw843 : Cond.code yX6_weighBy cX6_weighBy 7 none ∈ wA := List.mem_filter.mpr ⟨zt4 (List.mem_of_getElem? (i := 26) rfl), (by decide +kernel)⟩
set_option maxRecDepth 20000 in
theorem qw844 : Cond.methodLink RX6 83 yX8_showOf ∈ wA := List.mem_filter.mpr ⟨zt4 (List.mem_of_getElem? (i := 27) rfl), (by decide +kernel)⟩
set_option maxRecDepth 20000 in
theorem qw845 : Cond.methodLink RX6 89 Lib.Math.abs.name ∈ wA := List.mem_filter.mpr ⟨zt4 (List.mem_of_getElem? (i := 28) rfl), (by decide +kernel)⟩
set_option maxRecDepth 20000 in
theorem qw846 : Cond.static Lib.Math.abs.name ∈ wA := List.mem_filter.mpr ⟨zt4 (List.mem_of_getElem? (i := 29) rfl), (by decide +kernel)⟩
set_option maxRecDepth 20000 in
theorem qw847 : Cond.code Lib.Math.abs.name Lib.Math.abs.code 1 (some .int) ∈ wA := List.mem_filter.mpr ⟨zt4 (List.mem_of_getElem? (i := 30) rfl), (by decide +kernel)⟩
set_option maxRecDepth 20000 in
theorem qw848 : Cond.methodLink RX6 94 yX1_skillOf ∈ wA := List.mem_filter.mpr ⟨zt4 (List.mem_of_getElem? (i := 31) rfl), (by decide +kernel)⟩
set_option maxRecDepth 20000 in
theorem qw849 : Cond.methodLink RX6 97 Lib.Math.max.name ∈ wA := List.mem_filter.mpr ⟨zt4 (List.mem_of_getElem? (i := 32) rfl), (by decide +kernel)⟩
set_option maxRecDepth 20000 in
theorem qw850 : Cond.methodLink RX6 80 yX6_share ∈ wA := List.mem_filter.mpr ⟨zt4 (List.mem_of_getElem? (i := 33) rfl), (by decide +kernel)⟩
set_option maxRecDepth 20000 in
theorem qw851 : Cond.instanceMethod yX6_share ∈ wA := List.mem_filter.mpr ⟨zt4 (List.mem_of_getElem? (i := 34) rfl), (by decide +kernel)⟩
set_option maxRecDepth 20000 in
theorem qw852 : Cond.selects RX6 yX6_share yX6_share ∈ wA := List.mem_filter.mpr ⟨zt4 (List.mem_of_getElem? (i := 35) rfl), (by decide +kernel)⟩
set_option maxRecDepth 20000 in
theorem qw853 : Cond.code yX6_share cX6_share 2 (some .int) ∈ wA := List.mem_filter.mpr ⟨zt4 (List.mem_of_getElem? (i := 36) rfl), (by decide +kernel)⟩
set_option maxRecDepth 20000 in
theorem qw854 : Cond.constantLong RX6 100 1000000 ∈ wA := List.mem_filter.mpr ⟨zt4 (List.mem_of_getElem? (i := 37) rfl), (by decide +kernel)⟩
set_option maxRecDepth 20000 in
theorem qw855 : Cond.methodLink RX10 288 yX6_share ∈ wA := List.mem_filter.mpr ⟨zt4 (List.mem_of_getElem? (i := 38) rfl), (by decide +kernel)⟩
set_option maxRecDepth 20000 in
theorem qw864 : Cond.constant RX10 294 1000000 ∈ wA := List.mem_filter.mpr ⟨zt4 (List.mem_of_getElem? (i := 47) rfl), (by decide +kernel)⟩
set_option maxRecDepth 20000 in
theorem qw869 : Cond.methodLink RX10 295 yX6_bestSketcher ∈ wA := List.mem_filter.mpr ⟨zt4 (List.mem_of_getElem? (i := 52) rfl), (by decide +kernel)⟩
set_option maxRecDepth 20000 in
theorem qw870 : Cond.instanceMethod yX6_bestSketcher ∈ wA := List.mem_filter.mpr ⟨zt4 (List.mem_of_getElem? (i := 53) rfl), (by decide +kernel)⟩
set_option maxRecDepth 20000 in
theorem qw871 : Cond.selects RX6 yX6_bestSketcher yX6_bestSketcher ∈ wA := List.mem_filter.mpr ⟨zt4 (List.mem_of_getElem? (i := 54) rfl), (by decide +kernel)⟩
set_option maxRecDepth 20000 in
theorem qw872 : Cond.code yX6_bestSketcher cX6_bestSketcher 7 (some .int) ∈ wA := List.mem_filter.mpr ⟨zt4 (List.mem_of_getElem? (i := 55) rfl), (by decide +kernel)⟩
set_option maxRecDepth 20000 in
theorem qw873 : Cond.methodLink RX6 108 yX6_mostAlike ∈ wA := List.mem_filter.mpr ⟨zt4 (List.mem_of_getElem? (i := 56) rfl), (by decide +kernel)⟩
set_option maxRecDepth 20000 in
theorem qw875 : Cond.instanceMethod yX6_mostAlike ∈ wA := List.mem_filter.mpr ⟨zt4 (List.mem_of_getElem? (i := 58) rfl), (by decide +kernel)⟩
set_option maxRecDepth 20000 in
theorem qw876 : Cond.code yX6_mostAlike cX6_mostAlike 7 (some .int) ∈ wA := List.mem_filter.mpr ⟨zt4 (List.mem_of_getElem? (i := 59) rfl), (by decide +kernel)⟩
set_option maxRecDepth 20000 in
theorem qw877 : Cond.methodLink RX6 111 yJ7_fill_53178 ∈ wA := List.mem_filter.mpr ⟨zt4 (List.mem_of_getElem? (i := 60) rfl), (by decide +kernel)⟩
set_option maxRecDepth 20000 in
theorem qw878 : Cond.static yJ7_fill_53178 ∈ wA := List.mem_filter.mpr ⟨zt4 (List.mem_of_getElem? (i := 61) rfl), (by decide +kernel)⟩
set_option maxRecDepth 20000 in
theorem qw879 : Cond.code yJ7_fill_53178 cJ7_fill_53178 4 none ∈ wA := List.mem_filter.mpr ⟨zt4 (List.mem_of_getElem? (i := 62) rfl), (by decide +kernel)⟩
set_option maxRecDepth 20000 in
theorem qw884 : Cond.methodLink RX10 298 yX6_fewestSketchers ∈ wA := List.mem_filter.mpr ⟨zt4 (List.mem_of_getElem? (i := 67) rfl), (by decide +kernel)⟩
set_option maxRecDepth 20000 in
theorem qw885 : Cond.instanceMethod yX6_fewestSketchers ∈ wA := List.mem_filter.mpr ⟨zt4 (List.mem_of_getElem? (i := 68) rfl), (by decide +kernel)⟩
set_option maxRecDepth 20000 in
theorem qw886 : Cond.selects RX6 yX6_fewestSketchers yX6_fewestSketchers ∈ wA := List.mem_filter.mpr ⟨zt4 (List.mem_of_getElem? (i := 69) rfl), (by decide +kernel)⟩
set_option maxRecDepth 20000 in
theorem qw887 : Cond.code yX6_fewestSketchers cX6_fewestSketchers 7 (some .int) ∈ wA := List.mem_filter.mpr ⟨zt4 (List.mem_of_getElem? (i := 70) rfl), (by decide +kernel)⟩
set_option maxRecDepth 20000 in
theorem qw888 : Cond.methodLink RX6 117 yX6_addTeller ∈ wA := List.mem_filter.mpr ⟨zt4 (List.mem_of_getElem? (i := 71) rfl), (by decide +kernel)⟩
set_option maxRecDepth 20000 in
theorem qw890 : Cond.instanceMethod yX6_addTeller ∈ wA := List.mem_filter.mpr ⟨zt4 (List.mem_of_getElem? (i := 73) rfl), (by decide +kernel)⟩
set_option maxRecDepth 20000 in
theorem qw891 : Cond.code yX6_addTeller cX6_addTeller 7 (some .int) ∈ wA := List.mem_filter.mpr ⟨zt4 (List.mem_of_getElem? (i := 74) rfl), (by decide +kernel)⟩
set_option maxRecDepth 20000 in
theorem qw892 : Cond.methodLink RX6 120 yJ6_bitCount_0f7a4 ∈ wA := List.mem_filter.mpr ⟨zt4 (List.mem_of_getElem? (i := 75) rfl), (by decide +kernel)⟩
set_option maxRecDepth 20000 in
theorem qw893 : Cond.static yJ6_bitCount_0f7a4 ∈ wA := List.mem_filter.mpr ⟨zt4 (List.mem_of_getElem? (i := 76) rfl), (by decide +kernel)⟩
set_option maxRecDepth 20000 in
theorem qw894 : Cond.code yJ6_bitCount_0f7a4 cJ6_bitCount_0f7a4 1 (some .int) ∈ wA := List.mem_filter.mpr ⟨zt4 (List.mem_of_getElem? (i := 77) rfl), (by decide +kernel)⟩
set_option maxRecDepth 20000 in
theorem qw895 : Cond.constant RJ6 265 1431655765 ∈ wA := List.mem_filter.mpr ⟨zt4 (List.mem_of_getElem? (i := 78) rfl), (by decide +kernel)⟩
set_option maxRecDepth 20000 in
theorem qw896 : Cond.constant RJ6 266 858993459 ∈ wA := List.mem_filter.mpr ⟨zt4 (List.mem_of_getElem? (i := 79) rfl), (by decide +kernel)⟩
set_option maxRecDepth 20000 in
theorem qw897 : Cond.constant RJ6 267 252645135 ∈ wA := List.mem_filter.mpr ⟨zt4 (List.mem_of_getElem? (i := 80) rfl), (by decide +kernel)⟩
set_option maxRecDepth 20000 in
theorem qw898 : Cond.methodLink RX6 125 yX6_tellsAll ∈ wA := List.mem_filter.mpr ⟨zt4 (List.mem_of_getElem? (i := 81) rfl), (by decide +kernel)⟩
set_option maxRecDepth 20000 in
theorem qw900 : Cond.instanceMethod yX6_tellsAll ∈ wA := List.mem_filter.mpr ⟨zt4 (List.mem_of_getElem? (i := 83) rfl), (by decide +kernel)⟩
set_option maxRecDepth 20000 in
theorem qw901 : Cond.code yX6_tellsAll cX6_tellsAll 4 (some .boolean) ∈ wA := List.mem_filter.mpr ⟨zt4 (List.mem_of_getElem? (i := 84) rfl), (by decide +kernel)⟩
set_option maxRecDepth 20000 in
theorem qw906 : Cond.methodLink RX10 301 yX1_worthWith ∈ wA := List.mem_filter.mpr ⟨zt4 (List.mem_of_getElem? (i := 89) rfl), (by decide +kernel)⟩
set_option maxRecDepth 20000 in
theorem qw907 : Cond.instanceMethod yX1_worthWith ∈ wA := List.mem_filter.mpr ⟨zt4 (List.mem_of_getElem? (i := 90) rfl), (by decide +kernel)⟩
set_option maxRecDepth 20000 in
theorem qw908 : Cond.selects RX1 yX1_worthWith yX1_worthWith ∈ wA := List.mem_filter.mpr ⟨zt4 (List.mem_of_getElem? (i := 91) rfl), (by decide +kernel)⟩
set_option maxRecDepth 20000 in
theorem qw909 : Cond.code yX1_worthWith cX1_worthWith 3 (some .int) ∈ wA := List.mem_filter.mpr ⟨zt4 (List.mem_of_getElem? (i := 92) rfl), (by decide +kernel)⟩
set_option maxRecDepth 20000 in
theorem qw910 : Cond.methodLink RX1 41 yX1_wantOfFace ∈ wA := List.mem_filter.mpr ⟨zt4 (List.mem_of_getElem? (i := 93) rfl), (by decide +kernel)⟩
set_option maxRecDepth 20000 in
theorem qw911 : Cond.methodLink RX1 45 yX1_dowryOf ∈ wA := List.mem_filter.mpr ⟨zt4 (List.mem_of_getElem? (i := 94) rfl), (by decide +kernel)⟩
set_option maxRecDepth 20000 in
theorem qw912 : Cond.methodLink RX1 49 yX1_wantOfDowry ∈ wA := List.mem_filter.mpr ⟨zt4 (List.mem_of_getElem? (i := 95) rfl), (by decide +kernel)⟩
set_option maxRecDepth 20000 in
theorem qw917 : Cond.methodLink RX10 304 yX10_choice ∈ wA := List.mem_filter.mpr ⟨zt4 (List.mem_of_getElem? (i := 100) rfl), (by decide +kernel)⟩
set_option maxRecDepth 20000 in
theorem qw919 : Cond.instanceMethod yX10_choice ∈ wA := List.mem_filter.mpr ⟨zt4 (List.mem_of_getElem? (i := 102) rfl), (by decide +kernel)⟩
set_option maxRecDepth 20000 in
theorem qw920 : Cond.code yX10_choice cX10_choice 7 (some .int) ∈ wA := List.mem_filter.mpr ⟨zt4 (List.mem_of_getElem? (i := 103) rfl), (by decide +kernel)⟩
set_option maxRecDepth 20000 in
theorem qw921 : Cond.methodLink RX10 307 yX1_trueWorth ∈ wA := List.mem_filter.mpr ⟨zt4 (List.mem_of_getElem? (i := 104) rfl), (by decide +kernel)⟩
set_option maxRecDepth 20000 in
theorem qw922 : Cond.instanceMethod yX1_trueWorth ∈ wA := List.mem_filter.mpr ⟨zt4 (List.mem_of_getElem? (i := 105) rfl), (by decide +kernel)⟩
set_option maxRecDepth 20000 in
theorem qw923 : Cond.selects RX1 yX1_trueWorth yX1_trueWorth ∈ wA := List.mem_filter.mpr ⟨zt4 (List.mem_of_getElem? (i := 106) rfl), (by decide +kernel)⟩
set_option maxRecDepth 20000 in
theorem qw924 : Cond.code yX1_trueWorth cX1_trueWorth 2 (some .int) ∈ wA := List.mem_filter.mpr ⟨zt4 (List.mem_of_getElem? (i := 107) rfl), (by decide +kernel)⟩
set_option maxRecDepth 20000 in
theorem qw925 : Cond.methodLink RX1 52 yX1_faceOf ∈ wA := List.mem_filter.mpr ⟨zt4 (List.mem_of_getElem? (i := 108) rfl), (by decide +kernel)⟩
set_option maxRecDepth 20000 in
theorem qw926 : Cond.methodLink RX1 55 yX1_worthWith ∈ wA := List.mem_filter.mpr ⟨zt4 (List.mem_of_getElem? (i := 109) rfl), (by decide +kernel)⟩
set_option maxRecDepth 20000 in
theorem qw931 : Cond.methodLink RX10 310 yX10_canPlay ∈ wA := List.mem_filter.mpr ⟨zt4 (List.mem_of_getElem? (i := 114) rfl), (by decide +kernel)⟩
set_option maxRecDepth 20000 in
theorem qw933 : Cond.instanceMethod yX10_canPlay ∈ wA := List.mem_filter.mpr ⟨zt4 (List.mem_of_getElem? (i := 116) rfl), (by decide +kernel)⟩
set_option maxRecDepth 20000 in
theorem qw934 : Cond.code yX10_canPlay cX10_canPlay 4 (some .boolean) ∈ wA := List.mem_filter.mpr ⟨zt4 (List.mem_of_getElem? (i := 117) rfl), (by decide +kernel)⟩
set_option maxRecDepth 20000 in
theorem qw935 : Cond.constant RX10 313 (-1000000) ∈ wA := List.mem_filter.mpr ⟨zt4 (List.mem_of_getElem? (i := 118) rfl), (by decide +kernel)⟩
set_option maxRecDepth 20000 in
theorem qw936 : Cond.methodLink RX10 314 yX8_lookOf ∈ wA := List.mem_filter.mpr ⟨zt4 (List.mem_of_getElem? (i := 119) rfl), (by decide +kernel)⟩
set_option maxRecDepth 20000 in
theorem qw937 : Cond.methodLink RX10 318 yX10_gain ∈ wA := List.mem_filter.mpr ⟨zt4 (List.mem_of_getElem? (i := 120) rfl), (by decide +kernel)⟩
set_option maxRecDepth 20000 in
theorem qw938 : Cond.static yX10_gain ∈ wA := List.mem_filter.mpr ⟨zt4 (List.mem_of_getElem? (i := 121) rfl), (by decide +kernel)⟩
set_option maxRecDepth 20000 in
theorem qw939 : Cond.code yX10_gain cX10_gain 4 (some .int) ∈ wA := List.mem_filter.mpr ⟨zt4 (List.mem_of_getElem? (i := 122) rfl), (by decide +kernel)⟩
set_option maxRecDepth 20000 in
theorem qw944 : Cond.methodLink RX10 324 yX8_fillLooks ∈ wA := List.mem_filter.mpr ⟨zt4 (List.mem_of_getElem? (i := 127) rfl), (by decide +kernel)⟩
set_option maxRecDepth 20000 in
theorem qw945 : Cond.instanceMethod yX8_fillLooks ∈ wA := List.mem_filter.mpr ⟨zt4 (List.mem_of_getElem? (i := 128) rfl), (by decide +kernel)⟩
set_option maxRecDepth 20000 in
theorem qw946 : Cond.selects RX8 yX8_fillLooks yX8_fillLooks ∈ wA := List.mem_filter.mpr ⟨zt4 (List.mem_of_getElem? (i := 129) rfl), (by decide +kernel)⟩
set_option maxRecDepth 20000 in
theorem qw947 : Cond.code yX8_fillLooks cX8_fillLooks 5 none ∈ wA := List.mem_filter.mpr ⟨zt4 (List.mem_of_getElem? (i := 130) rfl), (by decide +kernel)⟩
set_option maxRecDepth 20000 in
theorem qw948 : Cond.methodLink RX8 88 yX1_faceOf ∈ wA := List.mem_filter.mpr ⟨zt4 (List.mem_of_getElem? (i := 131) rfl), (by decide +kernel)⟩
set_option maxRecDepth 20000 in
theorem qw949 : Cond.methodLink RX10 331 yX10_bestAgainst ∈ wA := List.mem_filter.mpr ⟨zt4 (List.mem_of_getElem? (i := 132) rfl), (by decide +kernel)⟩
set_option maxRecDepth 20000 in
theorem qw950 : Cond.static yX10_bestAgainst ∈ wA := List.mem_filter.mpr ⟨zt4 (List.mem_of_getElem? (i := 133) rfl), (by decide +kernel)⟩
set_option maxRecDepth 20000 in
theorem qw951 : Cond.code yX10_bestAgainst cX10_bestAgainst 5 (some .boolean) ∈ wA := List.mem_filter.mpr ⟨zt4 (List.mem_of_getElem? (i := 134) rfl), (by decide +kernel)⟩
set_option maxRecDepth 20000 in
theorem qw960 : Cond.methodLink RX10 335 yJ6_bitCount_0f7a4 ∈ wA := List.mem_filter.mpr ⟨zt4 (List.mem_of_getElem? (i := 143) rfl), (by decide +kernel)⟩
set_option maxRecDepth 20000 in
theorem qw961 : Cond.methodLink RX10 340 yX1_rankByFee ∈ wA := List.mem_filter.mpr ⟨zt4 (List.mem_of_getElem? (i := 144) rfl), (by decide +kernel)⟩
set_option maxRecDepth 20000 in
theorem qw962 : Cond.instanceMethod yX1_rankByFee ∈ wA := List.mem_filter.mpr ⟨zt4 (List.mem_of_getElem? (i := 145) rfl), (by decide +kernel)⟩
set_option maxRecDepth 20000 in
theorem qw963 : Cond.selects RX1 yX1_rankByFee yX1_rankByFee ∈ wA := List.mem_filter.mpr ⟨zt4 (List.mem_of_getElem? (i := 146) rfl), (by decide +kernel)⟩
set_option maxRecDepth 20000 in
theorem qw964 : Cond.code yX1_rankByFee cX1_rankByFee 5 (some .int) ∈ wA := List.mem_filter.mpr ⟨zt4 (List.mem_of_getElem? (i := 147) rfl), (by decide +kernel)⟩
set_option maxRecDepth 20000 in
theorem qw965 : Cond.methodLink RX1 58 yX1_feeOf ∈ wA := List.mem_filter.mpr ⟨zt4 (List.mem_of_getElem? (i := 148) rfl), (by decide +kernel)⟩
set_option maxRecDepth 20000 in
theorem qw978 : Cond.constantLong RX10 346 1000000000 ∈ wA := List.mem_filter.mpr ⟨zt4 (List.mem_of_getElem? (i := 161) rfl), (by decide +kernel)⟩
set_option maxRecDepth 20000 in
theorem qw979 : Cond.constantLong RX10 348 100 ∈ wA := List.mem_filter.mpr ⟨zt4 (List.mem_of_getElem? (i := 162) rfl), (by decide +kernel)⟩
set_option maxRecDepth 20000 in
theorem qw984 : Cond.methodLink RX10 350 yX10_rankByPay ∈ wA := List.mem_filter.mpr ⟨zt4 (List.mem_of_getElem? (i := 167) rfl), (by decide +kernel)⟩
set_option maxRecDepth 20000 in
theorem qw986 : Cond.instanceMethod yX10_rankByPay ∈ wA := List.mem_filter.mpr ⟨zt4 (List.mem_of_getElem? (i := 169) rfl), (by decide +kernel)⟩
set_option maxRecDepth 20000 in
theorem qw987 : Cond.code yX10_rankByPay cX10_rankByPay 5 (some .int) ∈ wA := List.mem_filter.mpr ⟨zt4 (List.mem_of_getElem? (i := 170) rfl), (by decide +kernel)⟩
set_option maxRecDepth 20000 in
theorem qw992 : Cond.methodLink RX10 353 yX10_plainBrides ∈ wA := List.mem_filter.mpr ⟨zt4 (List.mem_of_getElem? (i := 175) rfl), (by decide +kernel)⟩
set_option maxRecDepth 20000 in
theorem qw994 : Cond.instanceMethod yX10_plainBrides ∈ wA := List.mem_filter.mpr ⟨zt4 (List.mem_of_getElem? (i := 177) rfl), (by decide +kernel)⟩
set_option maxRecDepth 20000 in
theorem qw995 : Cond.code yX10_plainBrides cX10_plainBrides 3 (some .int) ∈ wA := List.mem_filter.mpr ⟨zt4 (List.mem_of_getElem? (i := 178) rfl), (by decide +kernel)⟩
set_option maxRecDepth 20000 in
theorem qw996 : Cond.methodLink RX10 356 yX1_topBride ∈ wA := List.mem_filter.mpr ⟨zt4 (List.mem_of_getElem? (i := 179) rfl), (by decide +kernel)⟩
set_option maxRecDepth 20000 in
theorem qw997 : Cond.instanceMethod yX1_topBride ∈ wA := List.mem_filter.mpr ⟨zt4 (List.mem_of_getElem? (i := 180) rfl), (by decide +kernel)⟩
set_option maxRecDepth 20000 in
theorem qw998 : Cond.selects RX1 yX1_topBride yX1_topBride ∈ wA := List.mem_filter.mpr ⟨zt4 (List.mem_of_getElem? (i := 181) rfl), (by decide +kernel)⟩
set_option maxRecDepth 20000 in
theorem qw999 : Cond.code yX1_topBride cX1_topBride 4 (some .int) ∈ wA := List.mem_filter.mpr ⟨zt4 (List.mem_of_getElem? (i := 182) rfl), (by decide +kernel)⟩
set_option maxRecDepth 20000 in
theorem qw1000 : Cond.methodLink RX10 359 yX1_cheapPainter ∈ wA := List.mem_filter.mpr ⟨zt4 (List.mem_of_getElem? (i := 183) rfl), (by decide +kernel)⟩
set_option maxRecDepth 20000 in
theorem qw1001 : Cond.instanceMethod yX1_cheapPainter ∈ wA := List.mem_filter.mpr ⟨zt4 (List.mem_of_getElem? (i := 184) rfl), (by decide +kernel)⟩
set_option maxRecDepth 20000 in
theorem qw1002 : Cond.selects RX1 yX1_cheapPainter yX1_cheapPainter ∈ wA := List.mem_filter.mpr ⟨zt4 (List.mem_of_getElem? (i := 185) rfl), (by decide +kernel)⟩
set_option maxRecDepth 20000 in
theorem qw1003 : Cond.code yX1_cheapPainter cX1_cheapPainter 3 (some .int) ∈ wA := List.mem_filter.mpr ⟨zt4 (List.mem_of_getElem? (i := 186) rfl), (by decide +kernel)⟩
set_option maxRecDepth 20000 in
theorem qw1004 : Cond.methodLink RX10 362 yX10_lies ∈ wA := List.mem_filter.mpr ⟨zt4 (List.mem_of_getElem? (i := 187) rfl), (by decide +kernel)⟩
set_option maxRecDepth 20000 in
theorem qw1006 : Cond.instanceMethod yX10_lies ∈ wA := List.mem_filter.mpr ⟨zt4 (List.mem_of_getElem? (i := 189) rfl), (by decide +kernel)⟩
set_option maxRecDepth 20000 in
theorem qw1007 : Cond.code yX10_lies cX10_lies 3 (some .int) ∈ wA := List.mem_filter.mpr ⟨zt4 (List.mem_of_getElem? (i := 190) rfl), (by decide +kernel)⟩
set_option maxRecDepth 20000 in
theorem qw1008 : Cond.methodLink RX10 365 yX10_above ∈ wA := List.mem_filter.mpr ⟨zt4 (List.mem_of_getElem? (i := 191) rfl), (by decide +kernel)⟩
set_option maxRecDepth 20000 in
theorem qw1010 : Cond.instanceMethod yX10_above ∈ wA := List.mem_filter.mpr ⟨zt4 (List.mem_of_getElem? (i := 193) rfl), (by decide +kernel)⟩
set_option maxRecDepth 20000 in
theorem qw1011 : Cond.code yX10_above cX10_above 2 (some .int) ∈ wA := List.mem_filter.mpr ⟨zt4 (List.mem_of_getElem? (i := 194) rfl), (by decide +kernel)⟩
set_option maxRecDepth 20000 in
theorem qw1012 : Cond.methodLink RX10 368 Lib.Math.abs.name ∈ wA := List.mem_filter.mpr ⟨zt4 (List.mem_of_getElem? (i := 195) rfl), (by decide +kernel)⟩
set_option maxRecDepth 20000 in
theorem qw1021 : Cond.methodLink RX10 371 Lib.Math.max.name ∈ wA := List.mem_filter.mpr ⟨zt4 (List.mem_of_getElem? (i := 204) rfl), (by decide +kernel)⟩
set_option maxRecDepth 20000 in
theorem qw1034 : Cond.methodLink RX10 374 yX7_latestBy ∈ wA := List.mem_filter.mpr ⟨zt4 (List.mem_of_getElem? (i := 217) rfl), (by decide +kernel)⟩
set_option maxRecDepth 20000 in
theorem qw1039 : Cond.methodLink RX10 377 yX7_become ∈ wA := List.mem_filter.mpr ⟨zt4 (List.mem_of_getElem? (i := 222) rfl), (by decide +kernel)⟩
set_option maxRecDepth 20000 in
theorem qw1040 : Cond.instanceMethod yX7_become ∈ wA := List.mem_filter.mpr ⟨zt4 (List.mem_of_getElem? (i := 223) rfl), (by decide +kernel)⟩
set_option maxRecDepth 20000 in
theorem qw1041 : Cond.selects RX7 yX7_become yX7_become ∈ wA := List.mem_filter.mpr ⟨zt4 (List.mem_of_getElem? (i := 224) rfl), (by decide +kernel)⟩
set_option maxRecDepth 20000 in
theorem qw1042 : Cond.code yX7_become cX7_become 2 none ∈ wA := List.mem_filter.mpr ⟨zt4 (List.mem_of_getElem? (i := 225) rfl), (by decide +kernel)⟩
theorem hd_J6_bitCount_0f7a4 : yJ6_bitCount_0f7a4.cls = RJ6 ∧ yJ6_bitCount_0f7a4.cls ≠ "java/lang/invoke/MethodHandle" ∧ yJ6_bitCount_0f7a4.cls ≠ "java/lang/invoke/VarHandle" ∧ (parseMethodDescriptor yJ6_bitCount_0f7a4.desc).map (fun d => d.parameters.length) = some 1 := by decide +kernel
theorem hd_J7_fill_53178 : yJ7_fill_53178.cls = RJ7 ∧ yJ7_fill_53178.cls ≠ "java/lang/invoke/MethodHandle" ∧ yJ7_fill_53178.cls ≠ "java/lang/invoke/VarHandle" ∧ (parseMethodDescriptor yJ7_fill_53178.desc).map (fun d => d.parameters.length) = some 2 := by decide +kernel
theorem hd_X0_forget : yX0_forget.cls = RX0 ∧ yX0_forget.cls ≠ "java/lang/invoke/MethodHandle" ∧ yX0_forget.cls ≠ "java/lang/invoke/VarHandle" ∧ (parseMethodDescriptor yX0_forget.desc).map (fun d => d.parameters.length) = some 0 := by decide +kernel
theorem hd_X0_keep : yX0_keep.cls = RX0 ∧ yX0_keep.cls ≠ "java/lang/invoke/MethodHandle" ∧ yX0_keep.cls ≠ "java/lang/invoke/VarHandle" ∧ (parseMethodDescriptor yX0_keep.desc).map (fun d => d.parameters.length) = some 1 := by decide +kernel
theorem hd_X0_takeBack : yX0_takeBack.cls = RX0 ∧ yX0_takeBack.cls ≠ "java/lang/invoke/MethodHandle" ∧ yX0_takeBack.cls ≠ "java/lang/invoke/VarHandle" ∧ (parseMethodDescriptor yX0_takeBack.desc).map (fun d => d.parameters.length) = some 1 := by decide +kernel
theorem hd_X10_above : yX10_above.cls = RX10 ∧ yX10_above.cls ≠ "java/lang/invoke/MethodHandle" ∧ yX10_above.cls ≠ "java/lang/invoke/VarHandle" ∧ (parseMethodDescriptor yX10_above.desc).map (fun d => d.parameters.length) = some 1 := by decide +kernel
theorem hd_X10_bestAgainst : yX10_bestAgainst.cls = RX10 ∧ yX10_bestAgainst.cls ≠ "java/lang/invoke/MethodHandle" ∧ yX10_bestAgainst.cls ≠ "java/lang/invoke/VarHandle" ∧ (parseMethodDescriptor yX10_bestAgainst.desc).map (fun d => d.parameters.length) = some 3 := by decide +kernel
theorem hd_X10_bit : yX10_bit.cls = RX10 ∧ yX10_bit.cls ≠ "java/lang/invoke/MethodHandle" ∧ yX10_bit.cls ≠ "java/lang/invoke/VarHandle" ∧ (parseMethodDescriptor yX10_bit.desc).map (fun d => d.parameters.length) = some 2 := by decide +kernel
theorem hd_X10_canPlay : yX10_canPlay.cls = RX10 ∧ yX10_canPlay.cls ≠ "java/lang/invoke/MethodHandle" ∧ yX10_canPlay.cls ≠ "java/lang/invoke/VarHandle" ∧ (parseMethodDescriptor yX10_canPlay.desc).map (fun d => d.parameters.length) = some 3 := by decide +kernel
theorem hd_X10_choice : yX10_choice.cls = RX10 ∧ yX10_choice.cls ≠ "java/lang/invoke/MethodHandle" ∧ yX10_choice.cls ≠ "java/lang/invoke/VarHandle" ∧ (parseMethodDescriptor yX10_choice.desc).map (fun d => d.parameters.length) = some 1 := by decide +kernel
theorem hd_X10_gain : yX10_gain.cls = RX10 ∧ yX10_gain.cls ≠ "java/lang/invoke/MethodHandle" ∧ yX10_gain.cls ≠ "java/lang/invoke/VarHandle" ∧ (parseMethodDescriptor yX10_gain.desc).map (fun d => d.parameters.length) = some 3 := by decide +kernel
theorem hd_X10_hasCourt : yX10_hasCourt.cls = RX10 ∧ yX10_hasCourt.cls ≠ "java/lang/invoke/MethodHandle" ∧ yX10_hasCourt.cls ≠ "java/lang/invoke/VarHandle" ∧ (parseMethodDescriptor yX10_hasCourt.desc).map (fun d => d.parameters.length) = some 0 := by decide +kernel
theorem hd_X10_isBride : yX10_isBride.cls = RX10 ∧ yX10_isBride.cls ≠ "java/lang/invoke/MethodHandle" ∧ yX10_isBride.cls ≠ "java/lang/invoke/VarHandle" ∧ (parseMethodDescriptor yX10_isBride.desc).map (fun d => d.parameters.length) = some 1 := by decide +kernel
theorem hd_X10_isDigit : yX10_isDigit.cls = RX10 ∧ yX10_isDigit.cls ≠ "java/lang/invoke/MethodHandle" ∧ yX10_isDigit.cls ≠ "java/lang/invoke/VarHandle" ∧ (parseMethodDescriptor yX10_isDigit.desc).map (fun d => d.parameters.length) = some 1 := by decide +kernel
theorem hd_X10_isFace : yX10_isFace.cls = RX10 ∧ yX10_isFace.cls ≠ "java/lang/invoke/MethodHandle" ∧ yX10_isFace.cls ≠ "java/lang/invoke/VarHandle" ∧ (parseMethodDescriptor yX10_isFace.desc).map (fun d => d.parameters.length) = some 1 := by decide +kernel
theorem hd_X10_isPainter : yX10_isPainter.cls = RX10 ∧ yX10_isPainter.cls ≠ "java/lang/invoke/MethodHandle" ∧ yX10_isPainter.cls ≠ "java/lang/invoke/VarHandle" ∧ (parseMethodDescriptor yX10_isPainter.desc).map (fun d => d.parameters.length) = some 1 := by decide +kernel
theorem hd_X10_lies : yX10_lies.cls = RX10 ∧ yX10_lies.cls ≠ "java/lang/invoke/MethodHandle" ∧ yX10_lies.cls ≠ "java/lang/invoke/VarHandle" ∧ (parseMethodDescriptor yX10_lies.desc).map (fun d => d.parameters.length) = some 0 := by decide +kernel
theorem hd_X10_looked : yX10_looked.cls = RX10 ∧ yX10_looked.cls ≠ "java/lang/invoke/MethodHandle" ∧ yX10_looked.cls ≠ "java/lang/invoke/VarHandle" ∧ (parseMethodDescriptor yX10_looked.desc).map (fun d => d.parameters.length) = some 1 := by decide +kernel
theorem hd_X10_paintByDraws : yX10_paintByDraws.cls = RX10 ∧ yX10_paintByDraws.cls ≠ "java/lang/invoke/MethodHandle" ∧ yX10_paintByDraws.cls ≠ "java/lang/invoke/VarHandle" ∧ (parseMethodDescriptor yX10_paintByDraws.desc).map (fun d => d.parameters.length) = some 0 := by decide +kernel
theorem hd_X10_paintNow : yX10_paintNow.cls = RX10 ∧ yX10_paintNow.cls ≠ "java/lang/invoke/MethodHandle" ∧ yX10_paintNow.cls ≠ "java/lang/invoke/VarHandle" ∧ (parseMethodDescriptor yX10_paintNow.desc).map (fun d => d.parameters.length) = some 2 := by decide +kernel
theorem hd_X10_payByDraws : yX10_payByDraws.cls = RX10 ∧ yX10_payByDraws.cls ≠ "java/lang/invoke/MethodHandle" ∧ yX10_payByDraws.cls ≠ "java/lang/invoke/VarHandle" ∧ (parseMethodDescriptor yX10_payByDraws.desc).map (fun d => d.parameters.length) = some 0 := by decide +kernel
theorem hd_X10_paysToHear : yX10_paysToHear.cls = RX10 ∧ yX10_paysToHear.cls ≠ "java/lang/invoke/MethodHandle" ∧ yX10_paysToHear.cls ≠ "java/lang/invoke/VarHandle" ∧ (parseMethodDescriptor yX10_paysToHear.desc).map (fun d => d.parameters.length) = some 3 := by decide +kernel
theorem hd_X10_plainBrides : yX10_plainBrides.cls = RX10 ∧ yX10_plainBrides.cls ≠ "java/lang/invoke/MethodHandle" ∧ yX10_plainBrides.cls ≠ "java/lang/invoke/VarHandle" ∧ (parseMethodDescriptor yX10_plainBrides.desc).map (fun d => d.parameters.length) = some 0 := by decide +kernel
theorem hd_X10_rankByPay : yX10_rankByPay.cls = RX10 ∧ yX10_rankByPay.cls ≠ "java/lang/invoke/MethodHandle" ∧ yX10_rankByPay.cls ≠ "java/lang/invoke/VarHandle" ∧ (parseMethodDescriptor yX10_rankByPay.desc).map (fun d => d.parameters.length) = some 1 := by decide +kernel
theorem hd_X10_refuse : yX10_refuse.cls = RX10 ∧ yX10_refuse.cls ≠ "java/lang/invoke/MethodHandle" ∧ yX10_refuse.cls ≠ "java/lang/invoke/VarHandle" ∧ (parseMethodDescriptor yX10_refuse.desc).map (fun d => d.parameters.length) = some 1 := by decide +kernel
theorem hd_X1_cheapPainter : yX1_cheapPainter.cls = RX1 ∧ yX1_cheapPainter.cls ≠ "java/lang/invoke/MethodHandle" ∧ yX1_cheapPainter.cls ≠ "java/lang/invoke/VarHandle" ∧ (parseMethodDescriptor yX1_cheapPainter.desc).map (fun d => d.parameters.length) = some 0 := by decide +kernel
theorem hd_X1_dowryOf : yX1_dowryOf.cls = RX1 ∧ yX1_dowryOf.cls ≠ "java/lang/invoke/MethodHandle" ∧ yX1_dowryOf.cls ≠ "java/lang/invoke/VarHandle" ∧ (parseMethodDescriptor yX1_dowryOf.desc).map (fun d => d.parameters.length) = some 1 := by decide +kernel
theorem hd_X1_faceOf : yX1_faceOf.cls = RX1 ∧ yX1_faceOf.cls ≠ "java/lang/invoke/MethodHandle" ∧ yX1_faceOf.cls ≠ "java/lang/invoke/VarHandle" ∧ (parseMethodDescriptor yX1_faceOf.desc).map (fun d => d.parameters.length) = some 1 := by decide +kernel
theorem hd_X1_feeOf : yX1_feeOf.cls = RX1 ∧ yX1_feeOf.cls ≠ "java/lang/invoke/MethodHandle" ∧ yX1_feeOf.cls ≠ "java/lang/invoke/VarHandle" ∧ (parseMethodDescriptor yX1_feeOf.desc).map (fun d => d.parameters.length) = some 1 := by decide +kernel
theorem hd_X1_firstPurse : yX1_firstPurse.cls = RX1 ∧ yX1_firstPurse.cls ≠ "java/lang/invoke/MethodHandle" ∧ yX1_firstPurse.cls ≠ "java/lang/invoke/VarHandle" ∧ (parseMethodDescriptor yX1_firstPurse.desc).map (fun d => d.parameters.length) = some 0 := by decide +kernel
theorem hd_X1_kindOf : yX1_kindOf.cls = RX1 ∧ yX1_kindOf.cls ≠ "java/lang/invoke/MethodHandle" ∧ yX1_kindOf.cls ≠ "java/lang/invoke/VarHandle" ∧ (parseMethodDescriptor yX1_kindOf.desc).map (fun d => d.parameters.length) = some 1 := by decide +kernel
theorem hd_X1_ofBride : yX1_ofBride.cls = RX1 ∧ yX1_ofBride.cls ≠ "java/lang/invoke/MethodHandle" ∧ yX1_ofBride.cls ≠ "java/lang/invoke/VarHandle" ∧ (parseMethodDescriptor yX1_ofBride.desc).map (fun d => d.parameters.length) = some 2 := by decide +kernel
theorem hd_X1_ofPainter : yX1_ofPainter.cls = RX1 ∧ yX1_ofPainter.cls ≠ "java/lang/invoke/MethodHandle" ∧ yX1_ofPainter.cls ≠ "java/lang/invoke/VarHandle" ∧ (parseMethodDescriptor yX1_ofPainter.desc).map (fun d => d.parameters.length) = some 2 := by decide +kernel
theorem hd_X1_rankByFee : yX1_rankByFee.cls = RX1 ∧ yX1_rankByFee.cls ≠ "java/lang/invoke/MethodHandle" ∧ yX1_rankByFee.cls ≠ "java/lang/invoke/VarHandle" ∧ (parseMethodDescriptor yX1_rankByFee.desc).map (fun d => d.parameters.length) = some 1 := by decide +kernel
theorem hd_X1_skillOf : yX1_skillOf.cls = RX1 ∧ yX1_skillOf.cls ≠ "java/lang/invoke/MethodHandle" ∧ yX1_skillOf.cls ≠ "java/lang/invoke/VarHandle" ∧ (parseMethodDescriptor yX1_skillOf.desc).map (fun d => d.parameters.length) = some 1 := by decide +kernel
theorem hd_X1_topBride : yX1_topBride.cls = RX1 ∧ yX1_topBride.cls ≠ "java/lang/invoke/MethodHandle" ∧ yX1_topBride.cls ≠ "java/lang/invoke/VarHandle" ∧ (parseMethodDescriptor yX1_topBride.desc).map (fun d => d.parameters.length) = some 1 := by decide +kernel
theorem hd_X1_trueWorth : yX1_trueWorth.cls = RX1 ∧ yX1_trueWorth.cls ≠ "java/lang/invoke/MethodHandle" ∧ yX1_trueWorth.cls ≠ "java/lang/invoke/VarHandle" ∧ (parseMethodDescriptor yX1_trueWorth.desc).map (fun d => d.parameters.length) = some 1 := by decide +kernel
theorem hd_X1_wantOfDowry : yX1_wantOfDowry.cls = RX1 ∧ yX1_wantOfDowry.cls ≠ "java/lang/invoke/MethodHandle" ∧ yX1_wantOfDowry.cls ≠ "java/lang/invoke/VarHandle" ∧ (parseMethodDescriptor yX1_wantOfDowry.desc).map (fun d => d.parameters.length) = some 0 := by decide +kernel
theorem hd_X1_wantOfFace : yX1_wantOfFace.cls = RX1 ∧ yX1_wantOfFace.cls ≠ "java/lang/invoke/MethodHandle" ∧ yX1_wantOfFace.cls ≠ "java/lang/invoke/VarHandle" ∧ (parseMethodDescriptor yX1_wantOfFace.desc).map (fun d => d.parameters.length) = some 0 := by decide +kernel
theorem hd_X1_wartsOf : yX1_wartsOf.cls = RX1 ∧ yX1_wartsOf.cls ≠ "java/lang/invoke/MethodHandle" ∧ yX1_wartsOf.cls ≠ "java/lang/invoke/VarHandle" ∧ (parseMethodDescriptor yX1_wartsOf.desc).map (fun d => d.parameters.length) = some 1 := by decide +kernel
theorem hd_X1_worthWith : yX1_worthWith.cls = RX1 ∧ yX1_worthWith.cls ≠ "java/lang/invoke/MethodHandle" ∧ yX1_worthWith.cls ≠ "java/lang/invoke/VarHandle" ∧ (parseMethodDescriptor yX1_worthWith.desc).map (fun d => d.parameters.length) = some 2 := by decide +kernel
theorem hd_X3_begin : yX3_begin.cls = RX3 ∧ yX3_begin.cls ≠ "java/lang/invoke/MethodHandle" ∧ yX3_begin.cls ≠ "java/lang/invoke/VarHandle" ∧ (parseMethodDescriptor yX3_begin.desc).map (fun d => d.parameters.length) = some 1 := by decide +kernel
theorem hd_X3_below : yX3_below.cls = RX3 ∧ yX3_below.cls ≠ "java/lang/invoke/MethodHandle" ∧ yX3_below.cls ≠ "java/lang/invoke/VarHandle" ∧ (parseMethodDescriptor yX3_below.desc).map (fun d => d.parameters.length) = some 1 := by decide +kernel
theorem hd_X4_answer : yX4_answer.cls = RX4 ∧ yX4_answer.cls ≠ "java/lang/invoke/MethodHandle" ∧ yX4_answer.cls ≠ "java/lang/invoke/VarHandle" ∧ (parseMethodDescriptor yX4_answer.desc).map (fun d => d.parameters.length) = some 2 := by decide +kernel
theorem hd_X4_joined : yX4_joined.cls = RX4 ∧ yX4_joined.cls ≠ "java/lang/invoke/MethodHandle" ∧ yX4_joined.cls ≠ "java/lang/invoke/VarHandle" ∧ (parseMethodDescriptor yX4_joined.desc).map (fun d => d.parameters.length) = some 3 := by decide +kernel
theorem hd_X6_addTeller : yX6_addTeller.cls = RX6 ∧ yX6_addTeller.cls ≠ "java/lang/invoke/MethodHandle" ∧ yX6_addTeller.cls ≠ "java/lang/invoke/VarHandle" ∧ (parseMethodDescriptor yX6_addTeller.desc).map (fun d => d.parameters.length) = some 3 := by decide +kernel
theorem hd_X6_bestSketcher : yX6_bestSketcher.cls = RX6 ∧ yX6_bestSketcher.cls ≠ "java/lang/invoke/MethodHandle" ∧ yX6_bestSketcher.cls ≠ "java/lang/invoke/VarHandle" ∧ (parseMethodDescriptor yX6_bestSketcher.desc).map (fun d => d.parameters.length) = some 1 := by decide +kernel
theorem hd_X6_fewestSketchers : yX6_fewestSketchers.cls = RX6 ∧ yX6_fewestSketchers.cls ≠ "java/lang/invoke/MethodHandle" ∧ yX6_fewestSketchers.cls ≠ "java/lang/invoke/VarHandle" ∧ (parseMethodDescriptor yX6_fewestSketchers.desc).map (fun d => d.parameters.length) = some 1 := by decide +kernel
theorem hd_X6_fitting : yX6_fitting.cls = RX6 ∧ yX6_fitting.cls ≠ "java/lang/invoke/MethodHandle" ∧ yX6_fitting.cls ≠ "java/lang/invoke/VarHandle" ∧ (parseMethodDescriptor yX6_fitting.desc).map (fun d => d.parameters.length) = some 1 := by decide +kernel
theorem hd_X6_mostAlike : yX6_mostAlike.cls = RX6 ∧ yX6_mostAlike.cls ≠ "java/lang/invoke/MethodHandle" ∧ yX6_mostAlike.cls ≠ "java/lang/invoke/VarHandle" ∧ (parseMethodDescriptor yX6_mostAlike.desc).map (fun d => d.parameters.length) = some 3 := by decide +kernel
theorem hd_X6_share : yX6_share.cls = RX6 ∧ yX6_share.cls ≠ "java/lang/invoke/MethodHandle" ∧ yX6_share.cls ≠ "java/lang/invoke/VarHandle" ∧ (parseMethodDescriptor yX6_share.desc).map (fun d => d.parameters.length) = some 1 := by decide +kernel
theorem hd_X6_sketches : yX6_sketches.cls = RX6 ∧ yX6_sketches.cls ≠ "java/lang/invoke/MethodHandle" ∧ yX6_sketches.cls ≠ "java/lang/invoke/VarHandle" ∧ (parseMethodDescriptor yX6_sketches.desc).map (fun d => d.parameters.length) = some 1 := by decide +kernel
theorem hd_X6_tellsAll : yX6_tellsAll.cls = RX6 ∧ yX6_tellsAll.cls ≠ "java/lang/invoke/MethodHandle" ∧ yX6_tellsAll.cls ≠ "java/lang/invoke/VarHandle" ∧ (parseMethodDescriptor yX6_tellsAll.desc).map (fun d => d.parameters.length) = some 2 := by decide +kernel
theorem hd_X6_weigh : yX6_weigh.cls = RX6 ∧ yX6_weigh.cls ≠ "java/lang/invoke/MethodHandle" ∧ yX6_weigh.cls ≠ "java/lang/invoke/VarHandle" ∧ (parseMethodDescriptor yX6_weigh.desc).map (fun d => d.parameters.length) = some 1 := by decide +kernel
theorem hd_X6_weighBy : yX6_weighBy.cls = RX6 ∧ yX6_weighBy.cls ≠ "java/lang/invoke/MethodHandle" ∧ yX6_weighBy.cls ≠ "java/lang/invoke/VarHandle" ∧ (parseMethodDescriptor yX6_weighBy.desc).map (fun d => d.parameters.length) = some 2 := by decide +kernel
theorem hd_X7_become : yX7_become.cls = RX7 ∧ yX7_become.cls ≠ "java/lang/invoke/MethodHandle" ∧ yX7_become.cls ≠ "java/lang/invoke/VarHandle" ∧ (parseMethodDescriptor yX7_become.desc).map (fun d => d.parameters.length) = some 1 := by decide +kernel
theorem hd_X7_hang : yX7_hang.cls = RX7 ∧ yX7_hang.cls ≠ "java/lang/invoke/MethodHandle" ∧ yX7_hang.cls ≠ "java/lang/invoke/VarHandle" ∧ (parseMethodDescriptor yX7_hang.desc).map (fun d => d.parameters.length) = some 3 := by decide +kernel
theorem hd_X7_latestBy : yX7_latestBy.cls = RX7 ∧ yX7_latestBy.cls ≠ "java/lang/invoke/MethodHandle" ∧ yX7_latestBy.cls ≠ "java/lang/invoke/VarHandle" ∧ (parseMethodDescriptor yX7_latestBy.desc).map (fun d => d.parameters.length) = some 1 := by decide +kernel
theorem hd_X7_ofPortrait : yX7_ofPortrait.cls = RX7 ∧ yX7_ofPortrait.cls ≠ "java/lang/invoke/MethodHandle" ∧ yX7_ofPortrait.cls ≠ "java/lang/invoke/VarHandle" ∧ (parseMethodDescriptor yX7_ofPortrait.desc).map (fun d => d.parameters.length) = some 2 := by decide +kernel
theorem hd_X7_passMonth : yX7_passMonth.cls = RX7 ∧ yX7_passMonth.cls ≠ "java/lang/invoke/MethodHandle" ∧ yX7_passMonth.cls ≠ "java/lang/invoke/VarHandle" ∧ (parseMethodDescriptor yX7_passMonth.desc).map (fun d => d.parameters.length) = some 0 := by decide +kernel
theorem hd_X7_portraitsOf : yX7_portraitsOf.cls = RX7 ∧ yX7_portraitsOf.cls ≠ "java/lang/invoke/MethodHandle" ∧ yX7_portraitsOf.cls ≠ "java/lang/invoke/VarHandle" ∧ (parseMethodDescriptor yX7_portraitsOf.desc).map (fun d => d.parameters.length) = some 1 := by decide +kernel
theorem hd_X7_readRow : yX7_readRow.cls = RX7 ∧ yX7_readRow.cls ≠ "java/lang/invoke/MethodHandle" ∧ yX7_readRow.cls ≠ "java/lang/invoke/VarHandle" ∧ (parseMethodDescriptor yX7_readRow.desc).map (fun d => d.parameters.length) = some 2 := by decide +kernel
theorem hd_X7_shownTogether : yX7_shownTogether.cls = RX7 ∧ yX7_shownTogether.cls ≠ "java/lang/invoke/MethodHandle" ∧ yX7_shownTogether.cls ≠ "java/lang/invoke/VarHandle" ∧ (parseMethodDescriptor yX7_shownTogether.desc).map (fun d => d.parameters.length) = some 1 := by decide +kernel
theorem hd_X7_writeRow : yX7_writeRow.cls = RX7 ∧ yX7_writeRow.cls ≠ "java/lang/invoke/MethodHandle" ∧ yX7_writeRow.cls ≠ "java/lang/invoke/VarHandle" ∧ (parseMethodDescriptor yX7_writeRow.desc).map (fun d => d.parameters.length) = some 2 := by decide +kernel
theorem hd_X8_fillLooks : yX8_fillLooks.cls = RX8 ∧ yX8_fillLooks.cls ≠ "java/lang/invoke/MethodHandle" ∧ yX8_fillLooks.cls ≠ "java/lang/invoke/VarHandle" ∧ (parseMethodDescriptor yX8_fillLooks.desc).map (fun d => d.parameters.length) = some 3 := by decide +kernel
theorem hd_X8_flatteryFor : yX8_flatteryFor.cls = RX8 ∧ yX8_flatteryFor.cls ≠ "java/lang/invoke/MethodHandle" ∧ yX8_flatteryFor.cls ≠ "java/lang/invoke/VarHandle" ∧ (parseMethodDescriptor yX8_flatteryFor.desc).map (fun d => d.parameters.length) = some 2 := by decide +kernel
theorem hd_X8_lookOf : yX8_lookOf.cls = RX8 ∧ yX8_lookOf.cls ≠ "java/lang/invoke/MethodHandle" ∧ yX8_lookOf.cls ≠ "java/lang/invoke/VarHandle" ∧ (parseMethodDescriptor yX8_lookOf.desc).map (fun d => d.parameters.length) = some 4 := by decide +kernel
theorem hd_X8_showOf : yX8_showOf.cls = RX8 ∧ yX8_showOf.cls ≠ "java/lang/invoke/MethodHandle" ∧ yX8_showOf.cls ≠ "java/lang/invoke/VarHandle" ∧ (parseMethodDescriptor yX8_showOf.desc).map (fun d => d.parameters.length) = some 3 := by decide +kernel
theorem hd_X9_add : yX9_add.cls = RX9 ∧ yX9_add.cls ≠ "java/lang/invoke/MethodHandle" ∧ yX9_add.cls ≠ "java/lang/invoke/VarHandle" ∧ (parseMethodDescriptor yX9_add.desc).map (fun d => d.parameters.length) = some 1 := by decide +kernel
theorem hd_X9_peek : yX9_peek.cls = RX9 ∧ yX9_peek.cls ≠ "java/lang/invoke/MethodHandle" ∧ yX9_peek.cls ≠ "java/lang/invoke/VarHandle" ∧ (parseMethodDescriptor yX9_peek.desc).map (fun d => d.parameters.length) = some 0 := by decide +kernel
theorem wb_tb (n : Nat) : (lN n).toBitVec = BitVec.ofNat 64 n := rfl
theorem wb_inj {a b : Int64} (h : a.toBitVec = b.toBitVec) : a = b := Int64.toBitVec_inj.mp h
theorem wb_tn {n : Nat} (h : n < 2 ^ 64) : (lN n).toBitVec.toNat = n := by rw [wb_tb, BitVec.toNat_ofNat, Nat.mod_eq_of_lt h]
theorem wb_of (x : Int64) : ∃ n, n < 2 ^ 64 ∧ x = lN n := ⟨x.toBitVec.toNat, x.toBitVec.isLt, wb_inj (by rw [wb_tb]; simp)⟩
theorem wb_of32 (x : Int32) : ∃ n, n < 2 ^ 32 ∧ x = nI n := ⟨x.toBitVec.toNat, x.toBitVec.isLt, Int32.toBitVec_inj.mp (by show _ = BitVec.ofNat 32 _; simp)⟩
theorem wb_c : ∀ k, k < 64 → ((nI k).toInt64 &&& 63) = lN k := by decide +kernel
theorem wb_cu : ∀ k, k < 64 → ((nI k).toInt64.toUInt64 &&& Int64.toUInt64 63) = UInt64.ofNat k := by decide +kernel
theorem wb_sm : ∀ k, k < 64 → (BitVec.ofNat 64 k).smod 64 = BitVec.ofNat 64 k := by decide +kernel
theorem wb_pw {a b : Nat} (h : a ≤ b) : 2 ^ b = 2 ^ a * 2 ^ (b - a) := by rw [← Nat.pow_add]; congr 1; omega
theorem wb_lt2 {a b : Nat} (h : a < b) : 2 ^ a < 2 ^ b := Nat.pow_lt_pow_right (by decide) h
theorem wb_mod (n : Nat) : lN n = lN (n % 2 ^ 64) := wb_inj (by rw [wb_tb, wb_tb]; apply BitVec.eq_of_toNat_eq; rw [BitVec.toNat_ofNat, BitVec.toNat_ofNat, Nat.mod_mod])
theorem wb_shr {n k : Nat} (hn : n < 2 ^ 64) (hk : k < 64) : ((lN n).toUInt64 >>> ((nI k).toInt64.toUInt64 &&& Int64.toUInt64 63)).toInt64 = lN (n / 2 ^ k) := by
  rw [wb_cu k hk]
  apply wb_inj
  apply BitVec.eq_of_toNat_eq
  show ((lN n).toUInt64 >>> UInt64.ofNat k).toNat = (BitVec.ofNat 64 _).toNat
  have h1 : (UInt64.ofNat k).toNat = k := by
    show (BitVec.ofNat 64 k).toNat = k
    rw [BitVec.toNat_ofNat, Nat.mod_eq_of_lt (by omega)]
  have h2 : (lN n).toUInt64.toNat = n := wb_tn hn
  rw [UInt64.toNat_shiftRight, h1, h2, Nat.mod_eq_of_lt hk, Nat.shiftRight_eq_div_pow, BitVec.toNat_ofNat, Nat.mod_eq_of_lt (Nat.lt_of_le_of_lt (Nat.div_le_self _ _) hn)]
theorem zgen {p : Program} {l : Launch} {e : Env} {R : Room} {s : State} {m : MethodId} {args : Array Value} {below : List Frame} {meth : Method} {c : Code} {H : Heap} {locs : List Loc} {cells slots : Nat} {Q : State → Prop} {g : JFrame} (kk : ∀ (R1 : Room) (Q1 : State → Prop), R1 = R → Q1 = Q → W p l e R1 s m args below meth c H locs cells slots Q1 g) : W p l e R s m args below meth c H locs cells slots Q g := kk R Q rfl rfl
theorem zadd {v x y : Int32} {a b : Int} (e : v = x + y) (hx : x.toInt = a) (hy : y.toInt = b) (h1 : -2147483648 ≤ a + b) (h2 : a + b ≤ 2147483647) : v.toInt = a + b := by
  subst hx hy
  rw [e, Jvm.Kit.i32_add (by omega) (by omega)]
theorem zsub {v x y : Int32} {a b : Int} (e : v = x - y) (hx : x.toInt = a) (hy : y.toInt = b) (h1 : -2147483648 ≤ a - b) (h2 : a - b ≤ 2147483647) : v.toInt = a - b := by
  subst hx hy
  rw [e, Jvm.Kit.i32_sub (by omega) (by omega)]
theorem zmul {v x y : Int32} {a b : Int} (e : v = x * y) (hx : x.toInt = a) (hy : y.toInt = b) (h1 : -2147483648 ≤ a * b) (h2 : a * b ≤ 2147483647) : v.toInt = a * b := by
  subst hx hy
  rw [e, Jvm.Kit.i32_mul (by omega) (by omega)]
theorem zaddI {v x : Int32} {q : Int} (e : v = x + Int32.ofInt q) (hq : (Int32.ofInt q).toInt = q) (h1 : -2147483648 ≤ x.toInt + q) (h2 : x.toInt + q ≤ 2147483647) : v.toInt = x.toInt + q := zadd e rfl hq h1 h2
theorem zdiv {v x y : Int32} {a b : Int} (e : v = x / y) (hx : x.toInt = a) (hy : y.toInt = b) (h1 : 0 ≤ a) (h2 : 0 < b) : v.toInt = a / b := by
  subst hx hy
  rw [e, lg_idiv_nonneg h1 h2]
theorem zrem {v x y : Int32} {a b : Int} (e : v = x - x / y * y) (hx : x.toInt = a) (hy : y.toInt = b) (h1 : 0 ≤ a) (h2 : 0 < b) : v.toInt = a % b := by
  have hd : (x / y).toInt = a / b := zdiv rfl hx hy h1 h2
  subst hx hy
  have lx := x.toInt_lt
  have q1 := Int.mul_ediv_add_emod x.toInt y.toInt
  have q2 := Int.emod_nonneg x.toInt (Int.ne_of_gt h2)
  have q3 := Int.emod_lt_of_pos x.toInt h2
  have q4 : 0 ≤ y.toInt * (x.toInt / y.toInt) := Int.mul_nonneg (by omega) (Int.ediv_nonneg h1 (by omega))
  have hm : (x / y * y).toInt = (x.toInt / y.toInt) * y.toInt := zmul rfl hd rfl (by rw [Int.mul_comm]; omega) (by rw [Int.mul_comm]; omega)
  rw [Int.mul_comm] at hm
  have hs := zsub e rfl hm (by omega) (by omega)
  omega
theorem z0 {y : Int32} (h : ¬ y.toInt = 0) : ¬ y = 0 := fun q => h (by rw [q]; decide)
theorem zandr {v x m : Int32} {b : Int} (e : v = x &&& m) (hm : m.toInt = b) (hb : 0 ≤ b) : 0 ≤ v.toInt ∧ v.toInt ≤ b := by
  have h0 : 0 ≤ m := Int32.le_iff_toInt_le.mpr (by rw [hm]; exact hb)
  obtain ⟨j, hj, rfl⟩ := nI_of (Int32.not_lt.mpr h0)
  have hj2 : (nI j).toInt = (j : Int) := nI_toInt hj
  have hv : v = nI ((x.toBitVec.toNat) &&& j) := by
    rw [e]
    apply Int32.toBitVec_inj.mp
    rw [Int32.toBitVec_and]
    apply BitVec.eq_of_toNat_eq
    rw [BitVec.toNat_and]
    show _ &&& (nI j).toBitVec.toNat = (nI (x.toBitVec.toNat &&& j)).toBitVec.toNat
    rw [pk_tn (by omega), pk_tn (Nat.lt_of_le_of_lt Nat.and_le_right (by omega))]
  have hle : x.toBitVec.toNat &&& j ≤ j := Nat.and_le_right
  rw [hv, nI_toInt (by omega), ← hm, hj2]
  omega
theorem zsh1 : ∀ j : Nat, j < 6 → 1 ≤ ((1 : Int32) <<< (nI j &&& 31)).toInt ∧ ((1 : Int32) <<< (nI j &&& 31)).toInt ≤ 32 := by decide +kernel
theorem zshl1 {v k : Int32} (e : v = 1 <<< (k &&& 31)) (h0 : 0 ≤ k.toInt) (h1 : k.toInt ≤ 5) : 1 ≤ v.toInt ∧ v.toInt ≤ 32 := by
  have hk : ¬ k < 0 := fun q => by have := Int32.lt_iff_toInt_lt.mp q; rw [show (0 : Int32).toInt = 0 from by decide] at this; omega
  obtain ⟨j, hj, rfl⟩ := nI_of hk
  rw [nI_toInt hj] at h1
  rw [e]
  exact zsh1 j (by omega)
theorem zmmax {v x y : Int32} (e : v = if x < y then y else x) : (v.toInt = x.toInt ∧ y.toInt ≤ x.toInt) ∨ (v.toInt = y.toInt ∧ x.toInt ≤ y.toInt) := by
  by_cases h : x < y
  · rw [if_pos h] at e
    have := Int32.lt_iff_toInt_lt.mp h
    subst e
    exact Or.inr ⟨rfl, by omega⟩
  · rw [if_neg h] at e
    have := z2 rfl rfl h
    subst e
    exact Or.inl ⟨rfl, this⟩
theorem zmmin {v x y : Int32} (e : v = if y < x then y else x) : (v.toInt = x.toInt ∧ x.toInt ≤ y.toInt) ∨ (v.toInt = y.toInt ∧ y.toInt ≤ x.toInt) := by
  by_cases h : y < x
  · rw [if_pos h] at e
    have := Int32.lt_iff_toInt_lt.mp h
    subst e
    exact Or.inr ⟨rfl, by omega⟩
  · rw [if_neg h] at e
    have := z2 rfl rfl h
    subst e
    exact Or.inl ⟨rfl, this⟩
theorem zlit {x : Int32} (h : 0 ≤ x.toInt) (h2 : x.toInt ≤ 1) : x = 0 ∨ x = 1 := by
  rcases (show x.toInt = 0 ∨ x.toInt = 1 by omega) with h | h
  · exact Or.inl (z7 (by decide) h)
  · exact Or.inr (z7 (by decide) h)
theorem znb {x : Int32} (h : 0 ≤ x.toInt) (h2 : x.toInt ≤ 1) : narrow .boolean (.int x) = .int x := by
  rcases zlit h h2 with rfl | rfl <;> rfl
theorem zfb {x : Int32} (h : 0 ≤ x.toInt) (h2 : x.toInt ≤ 1) : fits .boolean (.int x) = true := by
  rcases zlit h h2 with rfl | rfl <;> rfl
theorem znn {x : Int32} (h : 0 ≤ x.toInt) : ¬ x < 0 := fun q => by have := Int32.lt_iff_toInt_lt.mp q; rw [show (0 : Int32).toInt = 0 from by decide] at this; omega
theorem zcpb {x n : Int32} {a b : Int} {k : Nat} (hx : x.toInt = a) (hn : n.toInt = b) (h : a + b ≤ (k : Int) ∧ 0 ≤ a ∧ 0 ≤ b) : x.toNatClampNeg + n.toNatClampNeg ≤ k := by
  show x.toInt.toNat + n.toInt.toNat ≤ k
  omega
/-- the portraits: whose, and by whom, are places of brides and painters -/
def zPo (f : Nat → Int32) : Prop := ∀ i : Nat, (0 ≤ (f (4 * i)).toInt ∧ (f (4 * i)).toInt ≤ 5) ∧ (0 ≤ (f (4 * i + 1)).toInt ∧ (f (4 * i + 1)).toInt ≤ 4) ∧ (0 ≤ (f (4 * i + 2)).toInt ∧ (f (4 * i + 2)).toInt ≤ 9)
theorem zPo_0 {f : Nat → Int32} {v idx : Int32} {k : Int} (h : zPo f) (e : v = f idx.toNatClampNeg) (hi : idx.toInt = 4 * k) (hk : 0 ≤ k) : 0 ≤ v.toInt ∧ v.toInt ≤ 5 := by
  have h1 : idx.toNatClampNeg = 4 * k.toNat := by show idx.toInt.toNat = _; omega
  rw [e, h1]
  exact (h _).1
theorem zPo_1 {f : Nat → Int32} {v idx : Int32} {k : Int} (h : zPo f) (e : v = f idx.toNatClampNeg) (hi : idx.toInt = 4 * k + 1) (hk : 0 ≤ k) : 0 ≤ v.toInt ∧ v.toInt ≤ 4 := by
  have h1 : idx.toNatClampNeg = 4 * k.toNat + 1 := by show idx.toInt.toNat = _; omega
  rw [e, h1]
  exact (h _).2.1
theorem zPo_2 {f : Nat → Int32} {v idx : Int32} {k : Int} (h : zPo f) (e : v = f idx.toNatClampNeg) (hi : idx.toInt = 4 * k + 2) (hk : 0 ≤ k) : 0 ≤ v.toInt ∧ v.toInt ≤ 9 := by
  have h1 : idx.toNatClampNeg = 4 * k.toNat + 2 := by show idx.toInt.toNat = _; omega
  rw [e, h1]
  exact (h _).2.2
theorem zPo_upd {f g : Nat → Int32} {i x : Int32} {k : Int} (c : Int) (h : zPo f) (e : g = upd f i.toNatClampNeg x) (hi : i.toInt = 4 * k + c) (hk : 0 ≤ k) (hc : (c = 0 ∧ 0 ≤ x.toInt ∧ x.toInt ≤ 5) ∨ (c = 1 ∧ 0 ≤ x.toInt ∧ x.toInt ≤ 4) ∨ (c = 2 ∧ 0 ≤ x.toInt ∧ x.toInt ≤ 9) ∨ c = 3) : zPo g := by
  intro j
  have h1 : i.toNatClampNeg = (4 * k + c).toNat := by show i.toInt.toNat = _; rw [hi]
  have hj := h j
  rw [e, h1]
  refine ⟨?_, ?_, ?_⟩
  · by_cases q : 4 * j = (4 * k + c).toNat
    · rw [q, pk_us]; omega
    · rw [pk_un q]; exact hj.1
  · by_cases q : 4 * j + 1 = (4 * k + c).toNat
    · rw [q, pk_us]; omega
    · rw [pk_un q]; exact hj.2.1
  · by_cases q : 4 * j + 2 = (4 * k + c).toNat
    · rw [q, pk_us]; omega
    · rw [pk_un q]; exact hj.2.2
theorem zPo_cpy {f g r : Nat → Int32} (hf : zPo f) (hg : zPo g) (e : r = va_cpy f g (0 : Int32).toNatClampNeg (0 : Int32).toNatClampNeg (80 : Int32).toNatClampNeg) : zPo r := by
  have e2 : r = va_cpy f g 0 0 80 := e
  intro j
  rw [e2]
  by_cases q : 4 * j + 2 < 80
  · rw [pk_cpy_in (by omega) (by omega), pk_cpy_in (by omega) (by omega), pk_cpy_in (by omega) (by omega)]
    have := hf j
    simpa using this
  · have q2 : 80 ≤ 4 * j := by omega
    rw [pk_cpy_out (by omega), pk_cpy_out (by omega), pk_cpy_out (by omega)]
    exact hg j
/-- the rows of what was: how many portraits, who was wed -/
def zRw (f : Nat → Int32) : Prop := ∀ i : Nat, (0 ≤ (f (17 * i + 11)).toInt ∧ (f (17 * i + 11)).toInt ≤ 20) ∧ (-1 ≤ (f (17 * i + 14)).toInt ∧ (f (17 * i + 14)).toInt ≤ 5)
theorem zRw_11 {f : Nat → Int32} {v idx : Int32} {k : Int} (h : zRw f) (e : v = f idx.toNatClampNeg) (hi : idx.toInt = 17 * k + 11) (hk : 0 ≤ k) : 0 ≤ v.toInt ∧ v.toInt ≤ 20 := by
  have h1 : idx.toNatClampNeg = 17 * k.toNat + 11 := by show idx.toInt.toNat = _; omega
  rw [e, h1]
  exact (h _).1
theorem zRw_14 {f : Nat → Int32} {v idx : Int32} {k : Int} (h : zRw f) (e : v = f idx.toNatClampNeg) (hi : idx.toInt = 17 * k + 14) (hk : 0 ≤ k) : -1 ≤ v.toInt ∧ v.toInt ≤ 5 := by
  have h1 : idx.toNatClampNeg = 17 * k.toNat + 14 := by show idx.toInt.toNat = _; omega
  rw [e, h1]
  exact (h _).2
theorem zRw_upd {f g : Nat → Int32} {i x : Int32} {k : Int} (c : Int) (h : zRw f) (e : g = upd f i.toNatClampNeg x) (hi : i.toInt = 17 * k + c) (hk : 0 ≤ k) (hc : (c = 11 ∧ 0 ≤ x.toInt ∧ x.toInt ≤ 20) ∨ (c = 14 ∧ -1 ≤ x.toInt ∧ x.toInt ≤ 5) ∨ c = 12 ∨ c = 13 ∨ c = 15 ∨ c = 16) : zRw g := by
  intro j
  have h1 : i.toNatClampNeg = (17 * k + c).toNat := by show i.toInt.toNat = _; rw [hi]
  have hj := h j
  rw [e, h1]
  constructor
  · by_cases q : 17 * j + 11 = (17 * k + c).toNat
    · rw [q, pk_us]; omega
    · rw [pk_un q]; exact hj.1
  · by_cases q : 17 * j + 14 = (17 * k + c).toNat
    · rw [q, pk_us]; omega
    · rw [pk_un q]; exact hj.2
theorem zRw_cpy {f g r : Nat → Int32} {sp dp n : Int32} {k : Int} (c b : Int) (h : zRw g) (e : r = va_cpy f g sp.toNatClampNeg dp.toNatClampNeg n.toNatClampNeg) (hd : dp.toInt = 17 * k + c) (hn : n.toInt = b) (hk : 0 ≤ k ∧ 0 ≤ c ∧ 0 ≤ b ∧ c + b ≤ 11) : zRw r := by
  have h1 : dp.toNatClampNeg = (17 * k + c).toNat := by show dp.toInt.toNat = _; rw [hd]
  have h2 : n.toNatClampNeg = b.toNat := by show n.toInt.toNat = _; rw [hn]
  intro j
  rw [e, h1, h2, pk_cpy_out (by omega), pk_cpy_out (by omega)]
  exact h j
theorem zlne {v : Int64} {x : Int32} (e : v = x.toInt64) (h : 1 ≤ x.toInt) : ¬ v = 0 := by
  intro q
  have h1 : v.toInt = x.toInt := by rw [e]; exact Int32.toInt_toInt64 x
  rw [q, show (0 : Int64).toInt = 0 from by decide] at h1
  omega
theorem zbel {x v1 v2 v3 : Int64} {r b : Int32} (e1 : v1 = (x.toUInt64 >>> ((33 : Int32).toInt64.toUInt64 &&& Int64.toUInt64 63)).toInt64) (e2 : v2 = b.toInt64) (e3 : v3 = v1 - v1 / v2 * v2) (e4 : r = v3.toInt32) (h : 1 ≤ b.toInt) : 0 ≤ r.toInt ∧ r.toInt < b.toInt := by
  obtain ⟨n, hn, rfl⟩ := wb_of x
  have hs : v1 = lN (n / 2 ^ 33) := e1.trans (wb_shr (k := 33) hn (by decide))
  obtain ⟨k, hk, rfl⟩ := nI_of (x := b) (znn (by omega))
  rw [nI_toInt hk] at h ⊢
  have hb : v2 = lN k := e2.trans (nI_l hk)
  have h1 : n / 2 ^ 33 < 2 ^ 31 := Nat.div_lt_of_lt_mul (by omega)
  have h3 : v3 = lN (n / 2 ^ 33 % k) := by rw [e3, hs, hb]; exact pk_lRem (by omega) (by omega) (by omega)
  have h4 : n / 2 ^ 33 % k < k := Nat.mod_lt _ (by omega)
  rw [e4, h3, lN_i, nI_toInt (by omega)]
  omega
/-- the steps of a law: a letter's place is one of six -/
def zSt (f : Nat → Int32) : Prop := ∀ j : Nat, f j &&& 255 = 2 → 0 ≤ (f j >>> ((8 : Int32) &&& 31)).toInt ∧ (f j >>> ((8 : Int32) &&& 31)).toInt ≤ 5
theorem zSt_get {f : Nat → Int32} {i : Nat} {a s b g : Int32} (h : zSt f) (e1 : a = f i) (e2 : s = a &&& 255) (e3 : b = f i) (e4 : g = b >>> ((8 : Int32) &&& 31)) (hs : s.toInt = 2) : 0 ≤ g.toInt ∧ g.toInt ≤ 5 := by
  have h2 : s = 2 := z7 (by decide) hs
  rw [e4, e3]
  exact h i (by rw [← e1, ← e2, h2])
def ztf0 : Nat → Int32
  | 0 => 102
  | 1 => 119
  | 2 => 121
  | 3 => 115
  | 4 => 97
  | _ => 109
def ztf1 : Nat → Int32
  | 0 => 112
  | 1 => 102
  | _ => 100
def ztf2 : Nat → Int32
  | 0 => 99
  | 1 => 9
  | _ => 9
def ztf3 : Nat → Int32
  | 0 => 40
  | 1 => 5
  | _ => 3
def ztf4 : Nat → Int32
  | 0 => 102
  | 1 => 100
  | 2 => 119
  | _ => 121
def ztf5 : Nat → Int32
  | 0 => 9
  | 1 => 99
  | 2 => 9
  | _ => 9
def ztf6 : Nat → Int32
  | 0 => 5
  | 1 => 20
  | 2 => 1
  | _ => 2
def ztf7 : Nat → Int32
  | 0 => 115
  | 1 => 102
  | 2 => 97
  | _ => 107
def ztf8 : Nat → Int32
  | 0 => 9
  | 1 => 30
  | 2 => 9
  | _ => 3
def ztf9 : Nat → Int32
  | 0 => 5
  | 1 => 5
  | 2 => 3
  | _ => 0
def zTl : Nat → Nat → Int32
  | 0 => ztf0
  | 1 => ztf1
  | 2 => ztf2
  | 3 => ztf3
  | 4 => ztf4
  | 5 => ztf5
  | 6 => ztf6
  | 7 => ztf7
  | 8 => ztf8
  | _ => ztf9
/-- a static row that nobody writes -/
def zTt (lo : Nat) (ty : FieldType) (g N : Nat) (A : Nat → Prop) (U : State) : Prop := ∃ f : Nat → Int32, va_T ty g N (fun j => .int (f j)) A U U.heap ∧ ∀ j : Nat, j < N → f j = zTl lo j
theorem zTt_call {lo : Nat} {ty : FieldType} {g N : Nat} {A B : Nat → Prop} {s U : State} {H : Heap} {locs : List Loc} (h : zTt lo ty g N A s) (hS : va_S A s.heap H locs) (hB : ∀ q, B q → A q) (hU : U.heap = H) (hW : s.WarmedH U.vm) : zTt lo ty g N B U := by
  obtain ⟨f, h2, h3⟩ := h
  refine ⟨f, ?_, h3⟩
  rw [hU]
  exact ((h2.kept hS.2.1).narrow hB).moved hW.alike
theorem zTt_same {lo : Nat} {ty : FieldType} {g N : Nat} {A : Nat → Prop} {U V : State} (h : zTt lo ty g N A U) (hh : V.heap = U.heap) (hv : U.vm.Alike V.vm) : zTt lo ty g N A V := by
  obtain ⟨f, h2, h3⟩ := h
  exact ⟨f, by rw [hh]; exact h2.moved hv, h3⟩
def zTb (lo : Nat) (C n d : String) (ty : FieldType) (N : Nat) (A : Nat → Prop) (U : State) : Prop := ∃ (g : Nat), va_Z C n d (.ref g) A U U.heap ∧ zTt lo ty g N A U
theorem zTb_call {lo : Nat} {C n d : String} {ty : FieldType} {N : Nat} {A B : Nat → Prop} {s U : State} {H : Heap} {locs : List Loc} (h : zTb lo C n d ty N A s) (hS : va_S A s.heap H locs) (hB : ∀ q, B q → A q) (hU : U.heap = H) (hW : s.WarmedH U.vm) : zTb lo C n d ty N B U := by
  obtain ⟨g, h1, h2⟩ := h
  refine ⟨g, ?_, zTt_call h2 hS hB hU hW⟩
  rw [hU]
  exact ((h1.kept hS.2.1).narrow hB).moved hW.alike
theorem zTb_same {lo : Nat} {C n d : String} {ty : FieldType} {N : Nat} {A : Nat → Prop} {U V : State} (h : zTb lo C n d ty N A U) (hh : V.heap = U.heap) (hv : U.vm.Alike V.vm) : zTb lo C n d ty N A V := by
  obtain ⟨g, h1, h2⟩ := h
  exact ⟨g, by rw [hh]; exact h1.moved hv, zTt_same h2 hh hv⟩
theorem ztl {f : Nat → Int32} {N t : Nat} {lo hi : Int} {v i : Int32} (hr : ∀ j : Nat, j < N → f j = zTl t j) (hb : ∀ j : Nat, j < N → lo ≤ (zTl t j).toInt ∧ (zTl t j).toInt ≤ hi) (e : v = f i.toNatClampNeg) (h : i.toInt < (N : Int)) (h0 : 0 ≤ i.toInt) : lo ≤ v.toInt ∧ v.toInt ≤ hi := by
  have hj : i.toNatClampNeg < N := by show i.toInt.toNat < N; omega
  rw [e, hr _ hj]
  exact hb _ hj
theorem ztx {f : Nat → Int32} {N t : Nat} {v i : Int32} (hr : ∀ j : Nat, j < N → f j = zTl t j) (e : v = f i.toNatClampNeg) (h : i.toInt < (N : Int)) (h0 : 0 ≤ i.toInt) : v = zTl t i.toNatClampNeg := by
  rw [e]
  exact hr _ (by show i.toInt.toNat < N; omega)
/-- what some calls need beside the good words: nest mates, static rows -/
def zV (A : Nat → Prop) (U : State) : Prop := va_Nw (.methodLinkNest RX6 49 yX10_bit "NinePortraits") U ∧ va_Nw (.methodLinkNest RX2 104 yX10_bit "NinePortraits") U ∧ zTb 0 "NinePortraits$LawReader" "LETTERS" "[C" .char 6 A U ∧ zTb 1 "NinePortraits$CourtReader" "RULE_LETTERS" "[C" .char 3 A U ∧ zTb 2 "NinePortraits$CourtReader" "RULE_BOUNDS" "[I" .int 3 A U ∧ zTb 3 "NinePortraits$CourtReader" "RULE_DEFAULTS" "[I" .int 3 A U ∧ zTb 4 "NinePortraits$CourtReader" "BRIDE_LETTERS" "[C" .char 4 A U ∧ zTb 5 "NinePortraits$CourtReader" "BRIDE_BOUNDS" "[I" .int 4 A U ∧ zTb 6 "NinePortraits$CourtReader" "BRIDE_DEFAULTS" "[I" .int 4 A U ∧ zTb 7 "NinePortraits$CourtReader" "PAINTER_LETTERS" "[C" .char 4 A U ∧ zTb 8 "NinePortraits$CourtReader" "PAINTER_BOUNDS" "[I" .int 4 A U ∧ zTb 9 "NinePortraits$CourtReader" "PAINTER_DEFAULTS" "[I" .int 4 A U
theorem zV_call {A B : Nat → Prop} {s : State} {H : Heap} {locs : List Loc} (hV : zV A s) (hS : va_S A s.heap H locs) (hB : ∀ q, B q → A q) : ∀ U : State, U.heap = H → s.WarmedH U.vm → zV B U := fun U hU hW => by
  obtain ⟨n1, n2, t0, t1, t2, t3, t4, t5, t6, t7, t8, t9⟩ := hV
  exact ⟨n1.warmM hW, n2.warmM hW, zTb_call t0 hS hB hU hW, zTb_call t1 hS hB hU hW, zTb_call t2 hS hB hU hW, zTb_call t3 hS hB hU hW, zTb_call t4 hS hB hU hW, zTb_call t5 hS hB hU hW, zTb_call t6 hS hB hU hW, zTb_call t7 hS hB hU hW, zTb_call t8 hS hB hU hW, zTb_call t9 hS hB hU hW⟩
theorem zV_same {A : Nat → Prop} {U V : State} (h : zV A U) (hh : V.heap = U.heap) (hv : U.vm = V.vm) : zV A V := by
  obtain ⟨n1, n2, t0, t1, t2, t3, t4, t5, t6, t7, t8, t9⟩ := h
  have ha : U.vm.Alike V.vm := by rw [hv]; exact Vm.Alike.refl V.vm
  exact ⟨n1.same rfl hv, n2.same rfl hv, zTb_same t0 hh ha, zTb_same t1 hh ha, zTb_same t2 hh ha, zTb_same t3 hh ha, zTb_same t4 hh ha, zTb_same t5 hh ha, zTb_same t6 hh ha, zTb_same t7 hh ha, zTb_same t8 hh ha, zTb_same t9 hh ha⟩
def zPW (D : va_G) (ts : List (ClassId × FieldType)) (av : List Value) (sz : Nat) (ws : va_W) (A : Nat → Prop) : Array Value → State → Prop := fun v U => zP D ts av sz ws v U ∧ zV A U
theorem zPWb {D : va_G} {ts : List (ClassId × FieldType)} {av : List Value} {sz : Nat} {ws : va_W} {A : Nat → Prop} : FrameBlind (zPW D ts av sz ws A) := fun a U g mk q => ⟨zPb a U g mk q.1, zV_same (U := U) q.2 rfl rfl⟩
theorem zPWS {D : va_G} {ts : List (ClassId × FieldType)} {As : List Value} {ws : va_W} {s : State} {H : Heap} {A B : Nat → Prop} (hP : va_P D vwCl ws H) (hK : va_K D vwCl ts s) (hD : va_D A ws) (hV : ∀ U : State, U.heap = H → s.WarmedH U.vm → zV B U) : PreS s H (zPW D ts As H.size ws B) As := ⟨zPWb, fun U hU hW => ⟨(zPS hP hK hD).2 U hU hW, hV U hU hW⟩⟩
theorem zPWV {D : va_G} {ts : List (ClassId × FieldType)} {As : List Value} {ws : va_W} {s : State} {H : Heap} {A B : Nat → Prop} {C : String} {b : Addr} (hP : va_P D vwCl ws H) (hK : va_K D vwCl ts s) (hD : va_D A ws) (hr : ∃ cell : Cell, H[b]? = some cell ∧ cell.vm.isStatics = false ∧ s.vm.findClass C = some cell.cls) (hV : ∀ U : State, U.heap = H → s.WarmedH U.vm → zV B U) : PreV s H C b (zPW D ts (.ref b :: As) H.size ws B) As := ⟨zPWb, hr, fun U hU hW => ⟨(zPV hP hK hD hr).2.2 U hU hW, hV U hU hW⟩⟩
/-- static rows handed over -/
def zTs (L : List (Nat × FieldType × Nat × Nat)) (A : Nat → Prop) (U : State) : Prop := ∀ q ∈ L, zTt q.1 q.2.1 q.2.2.1 q.2.2.2 A U
theorem zTs0 {A : Nat → Prop} {U : State} : zTs [] A U := fun _ h => nomatch h
theorem zTsc {lo : Nat} {ty : FieldType} {g N : Nat} {L : List (Nat × FieldType × Nat × Nat)} {A : Nat → Prop} {U : State} (h : zTt lo ty g N A U) (t : zTs L A U) : zTs ((lo, ty, g, N) :: L) A U := fun q hq => (List.mem_cons.mp hq).elim (fun e => by rw [e]; exact h) (fun e => t q e)
theorem zTs_call {L : List (Nat × FieldType × Nat × Nat)} {A B : Nat → Prop} {s : State} {H : Heap} {locs : List Loc} (h : zTs L A s) (hS : va_S A s.heap H locs) (hB : ∀ q, B q → A q) : ∀ U : State, U.heap = H → s.WarmedH U.vm → zTs L B U := fun U hU hW q hq => zTt_call (h q hq) hS hB hU hW
def zPX (D : va_G) (ts : List (ClassId × FieldType)) (av : List Value) (sz : Nat) (ws : va_W) (A : Nat → Prop) (L : List (Nat × FieldType × Nat × Nat)) : Array Value → State → Prop := fun v U => zPW D ts av sz ws A v U ∧ zTs L A U
theorem zPXb {D : va_G} {ts : List (ClassId × FieldType)} {av : List Value} {sz : Nat} {ws : va_W} {A : Nat → Prop} {L : List (Nat × FieldType × Nat × Nat)} : FrameBlind (zPX D ts av sz ws A L) := fun a U g mk q => ⟨zPWb a U g mk q.1, fun x hx => zTt_same (q.2 x hx) rfl (Vm.Alike.refl U.vm)⟩
theorem zPXS {D : va_G} {ts : List (ClassId × FieldType)} {As : List Value} {ws : va_W} {s : State} {H : Heap} {A B : Nat → Prop} {L : List (Nat × FieldType × Nat × Nat)} (hP : va_P D vwCl ws H) (hK : va_K D vwCl ts s) (hD : va_D A ws) (hV : ∀ U : State, U.heap = H → s.WarmedH U.vm → zV B U) (hE : ∀ U : State, U.heap = H → s.WarmedH U.vm → zTs L B U) : PreS s H (zPX D ts As H.size ws B L) As := ⟨zPXb, fun U hU hW => ⟨(zPWS hP hK hD hV).2 U hU hW, hE U hU hW⟩⟩
theorem zPXV {D : va_G} {ts : List (ClassId × FieldType)} {As : List Value} {ws : va_W} {s : State} {H : Heap} {A B : Nat → Prop} {C : String} {b : Addr} {L : List (Nat × FieldType × Nat × Nat)} (hP : va_P D vwCl ws H) (hK : va_K D vwCl ts s) (hD : va_D A ws) (hr : ∃ cell : Cell, H[b]? = some cell ∧ cell.vm.isStatics = false ∧ s.vm.findClass C = some cell.cls) (hV : ∀ U : State, U.heap = H → s.WarmedH U.vm → zV B U) (hE : ∀ U : State, U.heap = H → s.WarmedH U.vm → zTs L B U) : PreV s H C b (zPX D ts (.ref b :: As) H.size ws B L) As := ⟨zPXb, hr, fun U hU hW => ⟨(zPWV hP hK hD hr hV).2.2 U hU hW, hE U hU hW⟩⟩
theorem zgSW {own : String} {idx : Nat} {y : MethodName} {w : Cond} (h1 : Cond.methodLink own idx y ∈ wA) (h2 : Cond.static y ∈ wA) (h4 : Cond.initialized y.cls ∈ wA) (hc : w ∈ wA) : GoodIn wA (va_wsS own idx y (w :: wA)) := by
  intro v hv
  unfold va_wsS at hv
  rcases List.mem_append.mp hv with h | h
  · simp only [List.mem_cons, List.not_mem_nil, or_false] at h
    rcases h with rfl | rfl | rfl
    · exact zgood h1
    · exact zgood h2
    · exact zgood h4
  · exact zgI hc v h
def ztri : Nat → Nat
  | 0 => 0
  | k + 1 => ztri k + (9 - k)
theorem ztri_s {a b : Int32} (h : b.toInt = a.toInt + 1) (h0 : 0 ≤ a.toInt) : ztri b.toInt.toNat = ztri a.toInt.toNat + (9 - a.toInt.toNat) := by
  rw [show b.toInt.toNat = a.toInt.toNat + 1 by omega]
  rfl
theorem ztri_c : ∀ n : Nat, n < 9 → ztri n + (8 - n) ≤ 44 := by decide
theorem ztri_10 {a : Int32} {x : Int} (h : a.toInt = 10) (hx : x ≤ (ztri a.toInt.toNat : Int)) : x ≤ 45 := by
  rw [h] at hx
  exact hx
theorem zl0 {v : Int32} {x : Int64} (e : v = lg_cmp x 0) (h : ¬ v.toInt = 0) : ¬ x = 0 := by
  intro q
  apply h
  rw [e, q]
  decide
