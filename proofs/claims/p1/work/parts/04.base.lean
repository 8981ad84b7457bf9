def wA : List Cond := lw_tbl.filter goodWord
theorem zw (i : Nat) {w : Cond} (h : lw_tbl[i]? = some w) (hg : goodWord w = true) : w ∈ wA := List.mem_filter.mpr ⟨List.mem_of_getElem? h, hg⟩
theorem zin {ws : List Cond} (ps : List Nat) (hp : ws = ps.filterMap (fun i => lw_tbl[i]?)) (h : ws.all goodWord = true) : ∀ w ∈ ws, w ∈ wA := by
  intro w hw
  have h1 := List.all_eq_true.mp h w hw
  rw [hp] at hw
  obtain ⟨i, -, hi⟩ := List.mem_filterMap.mp hw
  exact List.mem_filter.mpr ⟨List.mem_of_getElem? hi, h1⟩
theorem zgood {w : Cond} (h : w ∈ wA) : w ∈ wA ∧ ((w.onTables && w.keeps) = true ∨ ∃ ty, w = .arrayClass ty) := ⟨h, good_of_word (List.mem_filter.mp h).2⟩
theorem zgI {w : Cond} (hc : w ∈ wA) : GoodIn wA (w :: wA) := by
  intro v hv
  rcases List.mem_cons.mp hv with rfl | h
  · exact zgood hc
  · exact zgood h
theorem zgV {own C : String} {idx : Nat} {y : MethodName} {w : Cond} (h1 : Cond.methodLink own idx y ∈ wA) (h2 : Cond.instanceMethod y ∈ wA) (h3 : Cond.selects C y y ∈ wA) (h4 : Cond.initialized C ∈ wA) (hc : w ∈ wA) : GoodIn wA (wsV own idx C y (w :: wA)) := by
  intro v hv
  unfold wsV at hv
  rcases List.mem_append.mp hv with h | h
  · simp only [List.mem_cons, List.not_mem_nil, or_false] at h
    rcases h with rfl | rfl | rfl | rfl
    · exact zgood h1
    · exact zgood h2
    · exact zgood h3
    · exact zgood h4
  · exact zgI hc v h
theorem zgS {own : String} {idx : Nat} {y : MethodName} {w : Cond} (h1 : Cond.methodLink own idx y ∈ wA) (h2 : Cond.static y ∈ wA) (h4 : Cond.initialized own ∈ wA) (hc : w ∈ wA) : GoodIn wA (wsS own idx y (w :: wA)) := by
  intro v hv
  unfold wsS at hv
  rcases List.mem_append.mp hv with h | h
  · simp only [List.mem_cons, List.not_mem_nil, or_false] at h
    rcases h with rfl | rfl | rfl
    · exact zgood h1
    · exact zgood h2
    · exact zgood h4
  · exact zgI hc v h
/-- a method's start: the arguments, the heap's size, the world, the tables, the cells apart -/
def zP (D : va_G) (ts : List (ClassId × FieldType)) (av : List Value) (sz : Nat) (ws : va_W) : Array Value → State → Prop := va_Pc av (fun U => U.heap.size = sz ∧ va_P D vwCl ws U.heap ∧ va_K D vwCl ts U ∧ va_D (fun _ => True) ws)
theorem zPb {D : va_G} {ts : List (ClassId × FieldType)} {av : List Value} {sz : Nat} {ws : va_W} : FrameBlind (zP D ts av sz ws) := fun a U g mk q => by
  obtain ⟨q0, q1, qP, qK, qD⟩ := q
  exact ⟨q0, q1, qP, va_K.moved (u := U) (U := U.calling g mk a) (Vm.Alike.refl U.vm) qK, qD⟩
theorem zPS {D : va_G} {ts : List (ClassId × FieldType)} {As : List Value} {ws : va_W} {s : State} {H : Heap} {A : Nat → Prop} (hP : va_P D vwCl ws H) (hK : va_K D vwCl ts s) (hD : va_D A ws) : PreS s H (zP D ts As H.size ws) As :=
  ⟨zPb, fun U hU hW => ⟨rfl, by rw [hU], by rw [hU]; exact hP, va_K.moved hW.alike hK, hD.weaken (fun _ _ _ _ => trivial)⟩⟩
theorem zPV {D : va_G} {ts : List (ClassId × FieldType)} {As : List Value} {ws : va_W} {s : State} {H : Heap} {A : Nat → Prop} {C : String} {b : Addr} (hP : va_P D vwCl ws H) (hK : va_K D vwCl ts s) (hD : va_D A ws) (hr : ∃ cell : Cell, H[b]? = some cell ∧ cell.vm.isStatics = false ∧ s.vm.findClass C = some cell.cls) : PreV s H C b (zP D ts (.ref b :: As) H.size ws) As :=
  ⟨zPb, hr, fun U hU hW => ⟨rfl, by rw [hU], by rw [hU]; exact hP, va_K.moved hW.alike hK, hD.weaken (fun _ _ _ _ => trivial)⟩⟩
theorem zP0 {D : va_G} {cl : List vw_C} {H : Heap} : va_P D cl [] H := fun k q h => by simp at h
theorem zD0 {A : Nat → Prop} : va_D A [] := ⟨fun i j p q h => by simp at h, fun k q h => by simp at h⟩
theorem zfr {A : Nat → Prop} {H0 H : Heap} {locs : List Loc} (hS : va_S A H0 H locs) (hA : ∀ q : Nat, H0.size ≤ q → A q) : ∀ q, va_A [] H.size q → A q := by
  intro q h
  rcases h with ⟨k, e, h⟩ | h
  · simp at h
  · exact hA q (Nat.le_trans hS.1 h)
theorem zkeep {D : va_G} {cl : List vw_C} {ws : va_W} {H H1 : Heap} (hP : va_P D cl ws H) (hk : ∀ q : Nat, q < H.size → ¬ va_A [] H.size q → H1[q]? = H[q]?) : va_P D cl ws H1 := by
  refine hP.kept (fun k q hq => hk q.1 (hP k q hq).lt ?_)
  rintro (⟨i, e, h⟩ | h)
  · simp at h
  · exact absurd (hP k q hq).lt (Nat.not_lt.mpr h)
theorem zstart {p : Program} {l : Launch} {e : Env} {R : Room} {s : State} {m : MethodId} {args : Array Value} {below : List Frame} {meth : Method} {c : Code} {cells slots : Nat} {Q : State → Prop} {g : JFrame} (kk : ∀ H : Heap, H = s.heap → W p l e R s m args below meth c H [] cells slots Q g) : W p l e R s m args below meth c s.heap [] cells slots Q g := kk _ rfl
theorem z1 {x y : Int32} {a b : Int} (hx : x.toInt = a) (hy : y.toInt = b) (h : x < y) : a < b := by rw [← hx, ← hy]; exact Int32.lt_iff_toInt_lt.mp h
theorem z2 {x y : Int32} {a b : Int} (hx : x.toInt = a) (hy : y.toInt = b) (h : ¬ x < y) : b ≤ a := by rw [← hx, ← hy]; exact Int.not_lt.mp (fun q => h (Int32.lt_iff_toInt_lt.mpr q))
theorem z3 {x y : Int32} {a b : Int} (hx : x.toInt = a) (hy : y.toInt = b) (h : x ≤ y) : a ≤ b := by rw [← hx, ← hy]; exact Int32.le_iff_toInt_le.mp h
theorem z4 {x y : Int32} {a b : Int} (hx : x.toInt = a) (hy : y.toInt = b) (h : ¬ x ≤ y) : b < a := by rw [← hx, ← hy]; exact Int.not_le.mp (fun q => h (Int32.le_iff_toInt_le.mpr q))
theorem z5 {x y : Int32} {a b : Int} (hx : x.toInt = a) (hy : y.toInt = b) (h : x = y) : a = b := by rw [← hx, ← hy, h]
theorem z6 {x y : Int32} {a b : Int} (hx : x.toInt = a) (hy : y.toInt = b) (h : ¬ x = y) : ¬ a = b := by rw [← hx, ← hy]; exact fun q => h (Int32.toInt_inj.mp q)
theorem z7 {x k : Int32} {a : Int} (hk : k.toInt = a) (h : x.toInt = a) : x = k := Int32.toInt_inj.mp (by rw [h, hk])
theorem zsw (x : Int32) (lo hi : Int) : (x.toInt < lo ∨ hi < x.toInt) ∨ (lo ≤ x.toInt ∧ x.toInt ≤ hi) := by omega
theorem zcA {D : va_G} {cl : List vw_C} {tys : List (ClassId × FieldType)} {s : State} {ty : FieldType} {c1 c2 : ClassId} (hK : va_K D cl tys s) (i j : Nat) (h1 : tys[i]? = some (c1, ty)) (h2 : tys[j]? = some (c2, ty)) : c2 = c1 := by
  have a := (hK.2 i _ h1).2
  have b := (hK.2 j _ h2).2
  cases ty <;> first | exact Option.some.inj (b.symm.trans a) | (obtain ⟨_, _, _, _, _, a⟩ := a; obtain ⟨_, _, _, _, _, b⟩ := b; exact Option.some.inj (b.symm.trans a))
theorem zt1 {w : Cond} (h : w ∈ tables_1_1) : w ∈ lw_tbl := List.mem_append_right (k2_sels lw_privs) (show w ∈ tables_1 from List.mem_append_left _ h)
theorem zt2 {w : Cond} (h : w ∈ tables_1_2) : w ∈ lw_tbl := List.mem_append_right (k2_sels lw_privs) (show w ∈ tables_1 from List.mem_append_right _ (List.mem_append_left _ h))
theorem zt3 {w : Cond} (h : w ∈ tables_1_3) : w ∈ lw_tbl := List.mem_append_right (k2_sels lw_privs) (show w ∈ tables_1 from List.mem_append_right _ (List.mem_append_right _ (List.mem_append_left _ h)))
theorem zt4 {w : Cond} (h : w ∈ tables_1_4) : w ∈ lw_tbl := List.mem_append_right (k2_sels lw_privs) (show w ∈ tables_1 from List.mem_append_right _ (List.mem_append_right _ (List.mem_append_right _ (List.mem_append_left _ h))))
theorem zt5 {w : Cond} (h : w ∈ tables_1_5) : w ∈ lw_tbl := List.mem_append_right (k2_sels lw_privs) (show w ∈ tables_1 from List.mem_append_right _ (List.mem_append_right _ (List.mem_append_right _ (List.mem_append_right _ (List.mem_append_left _ h)))))
theorem zt6 {w : Cond} (h : w ∈ tables_1_6) : w ∈ lw_tbl := List.mem_append_right (k2_sels lw_privs) (show w ∈ tables_1 from List.mem_append_right _ (List.mem_append_right _ (List.mem_append_right _ (List.mem_append_right _ (List.mem_append_right _ (List.mem_append_left _ h))))))
theorem zt7 {w : Cond} (h : w ∈ tables_1_7) : w ∈ lw_tbl := List.mem_append_right (k2_sels lw_privs) (show w ∈ tables_1 from List.mem_append_right _ (List.mem_append_right _ (List.mem_append_right _ (List.mem_append_right _ (List.mem_append_right _ (List.mem_append_right _ (List.mem_append_left _ h)))))))
theorem zt8 {w : Cond} (h : w ∈ tables_1_8) : w ∈ lw_tbl := List.mem_append_right (k2_sels lw_privs) (show w ∈ tables_1 from List.mem_append_right _ (List.mem_append_right _ (List.mem_append_right _ (List.mem_append_right _ (List.mem_append_right _ (List.mem_append_right _ (List.mem_append_right _ (h))))))))
set_option maxRecDepth 20000 in
theorem iX0 : ∀ w ∈ u_ws RX0 TX0 3, w ∈ wA := zin [272, 274, 276] (by decide +kernel) (by decide +kernel)
theorem fsX0 : ∀ j, j < 3 → defaultValue (tyX0 j) = vp_V [.null, .int 0, .int 0] j := by decide +kernel
set_option maxRecDepth 20000 in
theorem iX1 : ∀ w ∈ u_ws RX1 TX1 5, w ∈ wA := zin [201, 203, 205, 207, 209] (by decide +kernel) (by decide +kernel)
theorem fsX1 : ∀ j, j < 5 → defaultValue (tyX1 j) = vp_V [.null, .null, .null, .int 0, .int 0] j := by decide +kernel
set_option maxRecDepth 20000 in
theorem iX2 : ∀ w ∈ u_ws RX2 TX2 3, w ∈ wA := zin [157, 159, 161] (by decide +kernel) (by decide +kernel)
theorem fsX2 : ∀ j, j < 3 → defaultValue (tyX2 j) = vp_V [.null, .null, .int 0] j := by decide +kernel
set_option maxRecDepth 20000 in
theorem iX3 : ∀ w ∈ u_ws RX3 TX3 1, w ∈ wA := zin [353] (by decide +kernel) (by decide +kernel)
theorem fsX3 : ∀ j, j < 1 → defaultValue (tyX3 j) = vp_V [.long 0] j := by decide +kernel
set_option maxRecDepth 20000 in
theorem iX4 : ∀ w ∈ u_ws RX4 TX4 1, w ∈ wA := zin [577] (by decide +kernel) (by decide +kernel)
theorem fsX4 : ∀ j, j < 1 → defaultValue (tyX4 j) = vp_V [.null] j := by decide +kernel
set_option maxRecDepth 20000 in
theorem iX5 : ∀ w ∈ u_ws RX5 TX5 3, w ∈ wA := zin [173, 175, 177] (by decide +kernel) (by decide +kernel)
theorem fsX5 : ∀ j, j < 3 → defaultValue (tyX5 j) = vp_V [.null, .int 0, .null] j := by decide +kernel
set_option maxRecDepth 20000 in
theorem iX6 : ∀ w ∈ u_ws RX6 TX6 9, w ∈ wA := zin [326, 328, 330, 332, 334, 336, 338, 340, 342] (by decide +kernel) (by decide +kernel)
theorem fsX6 : ∀ j, j < 9 → defaultValue (tyX6 j) = vp_V [.null, .null, .null, .null, .long 0, .int 0, .null, .null, .null] j := by decide +kernel
set_option maxRecDepth 20000 in
theorem iX7 : ∀ w ∈ u_ws RX7 TX7 9, w ∈ wA := zin [243, 245, 247, 249, 251, 253, 255, 257, 259] (by decide +kernel) (by decide +kernel)
theorem fsX7 : ∀ j, j < 9 → defaultValue (tyX7 j) = vp_V [.null, .null, .null, .int 0, .int 0, .int 0, .int 0, .int 0, .int 0] j := by decide +kernel
set_option maxRecDepth 20000 in
theorem iX8 : ∀ w ∈ u_ws RX8 TX8 7, w ∈ wA := zin [295, 297, 299, 301, 303, 305, 307] (by decide +kernel) (by decide +kernel)
theorem fsX8 : ∀ j, j < 7 → defaultValue (tyX8 j) = vp_V [.null, .null, .null, .null, .null, .null, .null] j := by decide +kernel
set_option maxRecDepth 20000 in
theorem iX9 : ∀ w ∈ u_ws RX9 TX9 3, w ∈ wA := zin [140, 142, 144] (by decide +kernel) (by decide +kernel)
theorem fsX9 : ∀ j, j < 3 → defaultValue (tyX9 j) = vp_V [.null, .int 0, .int 0] j := by decide +kernel
set_option maxRecDepth 20000 in
theorem iX10 : ∀ w ∈ u_ws RX10 TX10 17, w ∈ wA := zin [373, 375, 377, 379, 381, 383, 385, 387, 389, 391, 393, 395, 397, 399, 401, 403, 405] (by decide +kernel) (by decide +kernel)
theorem fsX10 : ∀ j, j < 17 → defaultValue (tyX10 j) = vp_V [.null, .null, .null, .null, .null, .null, .null, .null, .null, .null, .null, .null, .null, .int 0, .int 0, .int 0, .int 0] j := by decide +kernel
set_option maxRecDepth 20000 in
theorem iX11 : ∀ w ∈ u_ws RX11 TX11 41, w ∈ wA := zin [1168, 1170, 1172, 1174, 1176, 1178, 1180, 1182, 1184, 1186, 1188, 1190, 1192, 1194, 1196, 1198, 1200, 1202, 1204, 1206, 1208, 1210, 1212, 1214, 1216, 1218, 1220, 1222, 1224, 1226, 1228, 1230, 1232, 1234, 1236, 1238, 1240, 1242, 1244, 1246, 1248] (by decide +kernel) (by decide +kernel)
theorem fsX11 : ∀ j, j < 41 → defaultValue (tyX11 j) = vp_V [.int 0, .null, .int 0, .int 0, .int 0, .int 0, .null, .null, .null, .null, .null, .null, .null, .int 0, .int 0, .null, .null, .null, .null, .null, .int 0, .int 0, .null, .null, .null, .int 0, .int 0, .null, .null, .int 0, .int 0, .null, .int 0, .long 0, .null, .int 0, .int 0, .null, .null, .null, .int 0] j := by decide +kernel
set_option maxRecDepth 20000 in
theorem qw0 : Cond.selects RX2 yX2_clause yX2_clause ∈ wA := zw 0 (by decide +kernel) (by decide +kernel)
set_option maxRecDepth 20000 in
theorem qw2 : Cond.selects RX5 yX5_clause yX5_clause ∈ wA := zw 2 (by decide +kernel) (by decide +kernel)
set_option maxRecDepth 20000 in
theorem qw10 : Cond.selects RX10 yX10_hasCourt yX10_hasCourt ∈ wA := zw 10 (by decide +kernel) (by decide +kernel)
set_option maxRecDepth 20000 in
theorem qw11 : Cond.selects RX10 yX10_isPainter yX10_isPainter ∈ wA := zw 11 (by decide +kernel) (by decide +kernel)
set_option maxRecDepth 20000 in
theorem qw12 : Cond.selects RX10 yX10_isBride yX10_isBride ∈ wA := zw 12 (by decide +kernel) (by decide +kernel)
set_option maxRecDepth 20000 in
theorem qw13 : Cond.selects RX10 yX10_refuse yX10_refuse ∈ wA := zw 13 (by decide +kernel) (by decide +kernel)
set_option maxRecDepth 20000 in
theorem qw15 : Cond.selects RX10 yX10_paysToHear yX10_paysToHear ∈ wA := zw 15 (by decide +kernel) (by decide +kernel)
set_option maxRecDepth 20000 in
theorem qw25 : Cond.selects RX10 yX10_canPlay yX10_canPlay ∈ wA := zw 25 (by decide +kernel) (by decide +kernel)
set_option maxRecDepth 20000 in
theorem qw31 : Cond.selects RX11 yX11_readCourt yX11_readCourt ∈ wA := zw 31 (by decide +kernel) (by decide +kernel)
set_option maxRecDepth 20000 in
theorem qw32 : Cond.selects RX11 yX11_look yX11_look ∈ wA := zw 32 (by decide +kernel) (by decide +kernel)
set_option maxRecDepth 20000 in
theorem qw33 : Cond.selects RX11 yX11_here yX11_here ∈ wA := zw 33 (by decide +kernel) (by decide +kernel)
set_option maxRecDepth 20000 in
theorem qw36 : Cond.selects RX11 yX11_bad yX11_bad ∈ wA := zw 36 (by decide +kernel) (by decide +kernel)
set_option maxRecDepth 20000 in
theorem qw37 : Cond.selects RX11 yX11_readLaw yX11_readLaw ∈ wA := zw 37 (by decide +kernel) (by decide +kernel)
set_option maxRecDepth 20000 in
theorem qw38 : Cond.selects RX11 yX11_open yX11_open ∈ wA := zw 38 (by decide +kernel) (by decide +kernel)
set_option maxRecDepth 20000 in
theorem qw39 : Cond.selects RX11 yX11_clause yX11_clause ∈ wA := zw 39 (by decide +kernel) (by decide +kernel)
set_option maxRecDepth 20000 in
theorem qw52 : Cond.selects RX11 yX11_atEnd yX11_atEnd ∈ wA := zw 52 (by decide +kernel) (by decide +kernel)
set_option maxRecDepth 20000 in
theorem qw56 : Cond.selects RX11 yX11_isBride yX11_isBride ∈ wA := zw 56 (by decide +kernel) (by decide +kernel)
set_option maxRecDepth 20000 in
theorem qw57 : Cond.selects RX11 yX11_isPainter yX11_isPainter ∈ wA := zw 57 (by decide +kernel) (by decide +kernel)
set_option maxRecDepth 20000 in
theorem qw58 : Cond.selects RX11 yX11_areBoth yX11_areBoth ∈ wA := zw 58 (by decide +kernel) (by decide +kernel)
set_option maxRecDepth 20000 in
theorem qw66 : Cond.selects RX11 yX11_isRefused yX11_isRefused ∈ wA := zw 66 (by decide +kernel) (by decide +kernel)
set_option maxRecDepth 20000 in
theorem qw69 : Cond.selects RX11 yX11_isTold yX11_isTold ∈ wA := zw 69 (by decide +kernel) (by decide +kernel)
set_option maxRecDepth 20000 in
theorem qw88 : Cond.selects RX11 yX11_areTwo yX11_areTwo ∈ wA := zw 88 (by decide +kernel) (by decide +kernel)
set_option maxRecDepth 20000 in
theorem qw97 : Cond.initialized RL ∈ wA := List.mem_filter.mpr ⟨zt1 (List.mem_of_getElem? (i := 0) (by decide +kernel)), (by decide +kernel)⟩
set_option maxRecDepth 20000 in
theorem qw98 : Cond.initialized RX10 ∈ wA := List.mem_filter.mpr ⟨zt1 (List.mem_of_getElem? (i := 1) (by decide +kernel)), (by decide +kernel)⟩
set_option maxRecDepth 20000 in
theorem qw99 : Cond.initialized RX9 ∈ wA := List.mem_filter.mpr ⟨zt1 (List.mem_of_getElem? (i := 2) (by decide +kernel)), (by decide +kernel)⟩
set_option maxRecDepth 20000 in
theorem qw100 : Cond.initialized RX2 ∈ wA := List.mem_filter.mpr ⟨zt1 (List.mem_of_getElem? (i := 3) (by decide +kernel)), (by decide +kernel)⟩
set_option maxRecDepth 20000 in
theorem qw101 : Cond.initialized RX5 ∈ wA := List.mem_filter.mpr ⟨zt1 (List.mem_of_getElem? (i := 4) (by decide +kernel)), (by decide +kernel)⟩
set_option maxRecDepth 20000 in
theorem qw102 : Cond.initialized RX1 ∈ wA := List.mem_filter.mpr ⟨zt1 (List.mem_of_getElem? (i := 5) (by decide +kernel)), (by decide +kernel)⟩
set_option maxRecDepth 20000 in
theorem qw103 : Cond.initialized RX7 ∈ wA := List.mem_filter.mpr ⟨zt1 (List.mem_of_getElem? (i := 6) (by decide +kernel)), (by decide +kernel)⟩
set_option maxRecDepth 20000 in
theorem qw104 : Cond.initialized RX0 ∈ wA := List.mem_filter.mpr ⟨zt1 (List.mem_of_getElem? (i := 7) (by decide +kernel)), (by decide +kernel)⟩
set_option maxRecDepth 20000 in
theorem qw105 : Cond.initialized RX8 ∈ wA := List.mem_filter.mpr ⟨zt1 (List.mem_of_getElem? (i := 8) (by decide +kernel)), (by decide +kernel)⟩
set_option maxRecDepth 20000 in
theorem qw106 : Cond.initialized RX6 ∈ wA := List.mem_filter.mpr ⟨zt1 (List.mem_of_getElem? (i := 9) (by decide +kernel)), (by decide +kernel)⟩
set_option maxRecDepth 20000 in
theorem qw107 : Cond.initialized RX3 ∈ wA := List.mem_filter.mpr ⟨zt1 (List.mem_of_getElem? (i := 10) (by decide +kernel)), (by decide +kernel)⟩
set_option maxRecDepth 20000 in
theorem qw108 : Cond.initialized RX11 ∈ wA := List.mem_filter.mpr ⟨zt1 (List.mem_of_getElem? (i := 11) (by decide +kernel)), (by decide +kernel)⟩
set_option maxRecDepth 20000 in
theorem qw109 : Cond.initialized "java/lang/System" ∈ wA := List.mem_filter.mpr ⟨zt1 (List.mem_of_getElem? (i := 12) (by decide +kernel)), (by decide +kernel)⟩
set_option maxRecDepth 20000 in
theorem qw116 : Cond.initialized "java/util/NoSuchElementException" ∈ wA := List.mem_filter.mpr ⟨zt1 (List.mem_of_getElem? (i := 19) (by decide +kernel)), (by decide +kernel)⟩
set_option maxRecDepth 20000 in
theorem qw118 : Cond.classLink RL 8 RX10 ∈ wA := List.mem_filter.mpr ⟨zt1 (List.mem_of_getElem? (i := 21) (by decide +kernel)), (by decide +kernel)⟩
set_option maxRecDepth 20000 in
theorem qw119 : Cond.instantiable RX10 17 ∈ wA := List.mem_filter.mpr ⟨zt1 (List.mem_of_getElem? (i := 22) (by decide +kernel)), (by decide +kernel)⟩
set_option maxRecDepth 20000 in
theorem qw120 : Cond.methodLink RL 15 yX10_init ∈ wA := List.mem_filter.mpr ⟨zt1 (List.mem_of_getElem? (i := 23) (by decide +kernel)), (by decide +kernel)⟩
set_option maxRecDepth 20000 in
theorem qw121 : Cond.instanceMethod yX10_init ∈ wA := List.mem_filter.mpr ⟨zt1 (List.mem_of_getElem? (i := 24) (by decide +kernel)), (by decide +kernel)⟩
set_option maxRecDepth 20000 in
theorem qw122 : Cond.code yX10_init cX10_init 1 none ∈ wA := List.mem_filter.mpr ⟨zt1 (List.mem_of_getElem? (i := 25) (by decide +kernel)), (by decide +kernel)⟩
set_option maxRecDepth 20000 in
theorem qw123 : Cond.methodLink RX10 1 objectInit ∈ wA := List.mem_filter.mpr ⟨zt1 (List.mem_of_getElem? (i := 26) (by decide +kernel)), (by decide +kernel)⟩
set_option maxRecDepth 20000 in
theorem qw124 : Cond.instanceMethod objectInit ∈ wA := List.mem_filter.mpr ⟨zt1 (List.mem_of_getElem? (i := 27) (by decide +kernel)), (by decide +kernel)⟩
set_option maxRecDepth 20000 in
theorem qw125 : Cond.code objectInit ⟨#[0xb1]⟩ 1 none ∈ wA := List.mem_filter.mpr ⟨zt1 (List.mem_of_getElem? (i := 28) (by decide +kernel)), (by decide +kernel)⟩
set_option maxRecDepth 20000 in
theorem qw126 : Cond.classLink RX10 7 RX9 ∈ wA := List.mem_filter.mpr ⟨zt1 (List.mem_of_getElem? (i := 29) (by decide +kernel)), (by decide +kernel)⟩
set_option maxRecDepth 20000 in
theorem qw127 : Cond.instantiable RX9 3 ∈ wA := List.mem_filter.mpr ⟨zt1 (List.mem_of_getElem? (i := 30) (by decide +kernel)), (by decide +kernel)⟩
set_option maxRecDepth 20000 in
theorem qw129 : Cond.instanceMethod yX9_init ∈ wA := List.mem_filter.mpr ⟨zt1 (List.mem_of_getElem? (i := 32) (by decide +kernel)), (by decide +kernel)⟩
set_option maxRecDepth 20000 in
theorem qw130 : Cond.code yX9_init cX9_init 1 none ∈ wA := List.mem_filter.mpr ⟨zt1 (List.mem_of_getElem? (i := 33) (by decide +kernel)), (by decide +kernel)⟩
set_option maxRecDepth 20000 in
theorem qw131 : Cond.methodLink RX9 3 objectInit ∈ wA := List.mem_filter.mpr ⟨zt1 (List.mem_of_getElem? (i := 34) (by decide +kernel)), (by decide +kernel)⟩
set_option maxRecDepth 20000 in
theorem qw132 : Cond.fieldLink RX9 9 "NinePortraits$Tape" "bytes" "[I" ∈ wA := List.mem_filter.mpr ⟨zt1 (List.mem_of_getElem? (i := 35) (by decide +kernel)), (by decide +kernel)⟩
set_option maxRecDepth 20000 in
theorem qw133 : Cond.fieldLink RX10 96 "NinePortraits$Tape" "length" "I" ∈ wA := List.mem_filter.mpr ⟨zt1 (List.mem_of_getElem? (i := 36) (by decide +kernel)), (by decide +kernel)⟩
set_option maxRecDepth 20000 in
theorem qw134 : Cond.fieldLink RX9 15 "NinePortraits$Tape" "length" "I" ∈ wA := List.mem_filter.mpr ⟨zt1 (List.mem_of_getElem? (i := 37) (by decide +kernel)), (by decide +kernel)⟩
set_option maxRecDepth 20000 in
theorem qw135 : Cond.fieldLink RX5 32 "NinePortraits$Tape" "length" "I" ∈ wA := List.mem_filter.mpr ⟨zt1 (List.mem_of_getElem? (i := 38) (by decide +kernel)), (by decide +kernel)⟩
set_option maxRecDepth 20000 in
theorem qw136 : Cond.fieldLink RX2 54 "NinePortraits$Tape" "length" "I" ∈ wA := List.mem_filter.mpr ⟨zt1 (List.mem_of_getElem? (i := 39) (by decide +kernel)), (by decide +kernel)⟩
set_option maxRecDepth 20000 in
theorem qw137 : Cond.fieldLink RX5 19 "NinePortraits$Tape" "at" "I" ∈ wA := List.mem_filter.mpr ⟨zt1 (List.mem_of_getElem? (i := 40) (by decide +kernel)), (by decide +kernel)⟩
set_option maxRecDepth 20000 in
theorem qw138 : Cond.fieldLink RX2 19 "NinePortraits$Tape" "at" "I" ∈ wA := List.mem_filter.mpr ⟨zt1 (List.mem_of_getElem? (i := 41) (by decide +kernel)), (by decide +kernel)⟩
set_option maxRecDepth 20000 in
theorem qw139 : Cond.fieldLink RX9 19 "NinePortraits$Tape" "at" "I" ∈ wA := List.mem_filter.mpr ⟨zt1 (List.mem_of_getElem? (i := 42) (by decide +kernel)), (by decide +kernel)⟩
set_option maxRecDepth 20000 in
theorem qw147 : Cond.arrayClass .int ∈ wA := List.mem_filter.mpr ⟨zt1 (List.mem_of_getElem? (i := 50) (by decide +kernel)), (by decide +kernel)⟩
set_option maxRecDepth 20000 in
theorem qw148 : Cond.classLink RX10 16 RX2 ∈ wA := List.mem_filter.mpr ⟨zt1 (List.mem_of_getElem? (i := 51) (by decide +kernel)), (by decide +kernel)⟩
set_option maxRecDepth 20000 in
theorem qw149 : Cond.instantiable RX2 3 ∈ wA := List.mem_filter.mpr ⟨zt1 (List.mem_of_getElem? (i := 52) (by decide +kernel)), (by decide +kernel)⟩
set_option maxRecDepth 20000 in
theorem qw151 : Cond.instanceMethod yX2_init ∈ wA := List.mem_filter.mpr ⟨zt1 (List.mem_of_getElem? (i := 54) (by decide +kernel)), (by decide +kernel)⟩
set_option maxRecDepth 20000 in
theorem qw152 : Cond.code yX2_init cX2_init 1 none ∈ wA := List.mem_filter.mpr ⟨zt1 (List.mem_of_getElem? (i := 55) (by decide +kernel)), (by decide +kernel)⟩
set_option maxRecDepth 20000 in
theorem qw153 : Cond.methodLink RX2 3 objectInit ∈ wA := List.mem_filter.mpr ⟨zt1 (List.mem_of_getElem? (i := 56) (by decide +kernel)), (by decide +kernel)⟩
set_option maxRecDepth 20000 in
theorem qw154 : Cond.fieldLink RX2 9 "NinePortraits$CourtReader" "tape" "LNinePortraits$Tape;" ∈ wA := List.mem_filter.mpr ⟨zt1 (List.mem_of_getElem? (i := 57) (by decide +kernel)), (by decide +kernel)⟩
set_option maxRecDepth 20000 in
theorem qw155 : Cond.fieldLink RX2 15 "NinePortraits$CourtReader" "court" "LNinePortraits$Court;" ∈ wA := List.mem_filter.mpr ⟨zt1 (List.mem_of_getElem? (i := 58) (by decide +kernel)), (by decide +kernel)⟩
set_option maxRecDepth 20000 in
theorem qw156 : Cond.fieldLink RX2 33 "NinePortraits$CourtReader" "hasRules" "Z" ∈ wA := List.mem_filter.mpr ⟨zt1 (List.mem_of_getElem? (i := 59) (by decide +kernel)), (by decide +kernel)⟩
set_option maxRecDepth 20000 in
theorem qw164 : Cond.classLink RX10 23 RX5 ∈ wA := List.mem_filter.mpr ⟨zt1 (List.mem_of_getElem? (i := 67) (by decide +kernel)), (by decide +kernel)⟩
set_option maxRecDepth 20000 in
theorem qw165 : Cond.instantiable RX5 3 ∈ wA := List.mem_filter.mpr ⟨zt1 (List.mem_of_getElem? (i := 68) (by decide +kernel)), (by decide +kernel)⟩
set_option maxRecDepth 20000 in
theorem qw167 : Cond.instanceMethod yX5_init ∈ wA := List.mem_filter.mpr ⟨zt1 (List.mem_of_getElem? (i := 70) (by decide +kernel)), (by decide +kernel)⟩
set_option maxRecDepth 20000 in
theorem qw168 : Cond.code yX5_init cX5_init 1 none ∈ wA := List.mem_filter.mpr ⟨zt1 (List.mem_of_getElem? (i := 71) (by decide +kernel)), (by decide +kernel)⟩
set_option maxRecDepth 20000 in
theorem qw169 : Cond.methodLink RX5 3 objectInit ∈ wA := List.mem_filter.mpr ⟨zt1 (List.mem_of_getElem? (i := 72) (by decide +kernel)), (by decide +kernel)⟩
set_option maxRecDepth 20000 in
theorem qw170 : Cond.fieldLink RX5 9 "NinePortraits$LawReader" "steps" "[I" ∈ wA := List.mem_filter.mpr ⟨zt1 (List.mem_of_getElem? (i := 73) (by decide +kernel)), (by decide +kernel)⟩
set_option maxRecDepth 20000 in
theorem qw171 : Cond.fieldLink RX5 25 "NinePortraits$LawReader" "size" "I" ∈ wA := List.mem_filter.mpr ⟨zt1 (List.mem_of_getElem? (i := 74) (by decide +kernel)), (by decide +kernel)⟩
set_option maxRecDepth 20000 in
theorem qw172 : Cond.fieldLink RX5 15 "NinePortraits$LawReader" "tape" "LNinePortraits$Tape;" ∈ wA := List.mem_filter.mpr ⟨zt1 (List.mem_of_getElem? (i := 75) (by decide +kernel)), (by decide +kernel)⟩
set_option maxRecDepth 20000 in
theorem qw180 : Cond.classLink RX10 30 RX1 ∈ wA := List.mem_filter.mpr ⟨zt1 (List.mem_of_getElem? (i := 83) (by decide +kernel)), (by decide +kernel)⟩
set_option maxRecDepth 20000 in
theorem qw181 : Cond.instantiable RX1 5 ∈ wA := List.mem_filter.mpr ⟨zt1 (List.mem_of_getElem? (i := 84) (by decide +kernel)), (by decide +kernel)⟩
set_option maxRecDepth 20000 in
theorem qw183 : Cond.instanceMethod yX1_init ∈ wA := List.mem_filter.mpr ⟨zt1 (List.mem_of_getElem? (i := 86) (by decide +kernel)), (by decide +kernel)⟩
set_option maxRecDepth 20000 in
theorem qw184 : Cond.code yX1_init cX1_init 1 none ∈ wA := List.mem_filter.mpr ⟨zt1 (List.mem_of_getElem? (i := 87) (by decide +kernel)), (by decide +kernel)⟩
set_option maxRecDepth 20000 in
theorem qw185 : Cond.methodLink RX1 3 objectInit ∈ wA := List.mem_filter.mpr ⟨zt1 (List.mem_of_getElem? (i := 88) (by decide +kernel)), (by decide +kernel)⟩
set_option maxRecDepth 20000 in
theorem qw186 : Cond.fieldLink RX1 9 "NinePortraits$Court" "rules" "[I" ∈ wA := List.mem_filter.mpr ⟨zt1 (List.mem_of_getElem? (i := 89) (by decide +kernel)), (by decide +kernel)⟩
set_option maxRecDepth 20000 in
theorem qw187 : Cond.fieldLink RX2 41 "NinePortraits$Court" "rules" "[I" ∈ wA := List.mem_filter.mpr ⟨zt1 (List.mem_of_getElem? (i := 90) (by decide +kernel)), (by decide +kernel)⟩
set_option maxRecDepth 20000 in
theorem qw188 : Cond.fieldLink RX1 15 "NinePortraits$Court" "brideParts" "[I" ∈ wA := List.mem_filter.mpr ⟨zt1 (List.mem_of_getElem? (i := 91) (by decide +kernel)), (by decide +kernel)⟩
set_option maxRecDepth 20000 in
theorem qw190 : Cond.fieldLink RX1 18 "NinePortraits$Court" "painterParts" "[I" ∈ wA := List.mem_filter.mpr ⟨zt1 (List.mem_of_getElem? (i := 93) (by decide +kernel)), (by decide +kernel)⟩
set_option maxRecDepth 20000 in
theorem qw193 : Cond.fieldLink RX2 25 "NinePortraits$Court" "brides" "I" ∈ wA := List.mem_filter.mpr ⟨zt1 (List.mem_of_getElem? (i := 96) (by decide +kernel)), (by decide +kernel)⟩
set_option maxRecDepth 20000 in
theorem qw195 : Cond.fieldLink RX10 134 "NinePortraits$Court" "brides" "I" ∈ wA := List.mem_filter.mpr ⟨zt1 (List.mem_of_getElem? (i := 98) (by decide +kernel)), (by decide +kernel)⟩
set_option maxRecDepth 20000 in
theorem qw197 : Cond.fieldLink RX2 30 "NinePortraits$Court" "painters" "I" ∈ wA := List.mem_filter.mpr ⟨zt1 (List.mem_of_getElem? (i := 100) (by decide +kernel)), (by decide +kernel)⟩
set_option maxRecDepth 20000 in
theorem qw200 : Cond.fieldLink RX10 266 "NinePortraits$Court" "painters" "I" ∈ wA := List.mem_filter.mpr ⟨zt1 (List.mem_of_getElem? (i := 103) (by decide +kernel)), (by decide +kernel)⟩
set_option maxRecDepth 20000 in
theorem qw212 : Cond.classLink RX10 40 RX4 ∈ wA := List.mem_filter.mpr ⟨zt1 (List.mem_of_getElem? (i := 115) (by decide +kernel)), (by decide +kernel)⟩
set_option maxRecDepth 20000 in
theorem qw214 : Cond.classLink RX10 46 RX7 ∈ wA := List.mem_filter.mpr ⟨zt1 (List.mem_of_getElem? (i := 117) (by decide +kernel)), (by decide +kernel)⟩
set_option maxRecDepth 20000 in
theorem qw215 : Cond.instantiable RX7 9 ∈ wA := List.mem_filter.mpr ⟨zt1 (List.mem_of_getElem? (i := 118) (by decide +kernel)), (by decide +kernel)⟩
set_option maxRecDepth 20000 in
theorem qw217 : Cond.instanceMethod yX7_init ∈ wA := List.mem_filter.mpr ⟨zt1 (List.mem_of_getElem? (i := 120) (by decide +kernel)), (by decide +kernel)⟩
set_option maxRecDepth 20000 in
theorem qw218 : Cond.code yX7_init cX7_init 1 none ∈ wA := List.mem_filter.mpr ⟨zt1 (List.mem_of_getElem? (i := 121) (by decide +kernel)), (by decide +kernel)⟩
set_option maxRecDepth 20000 in
theorem qw219 : Cond.methodLink RX7 3 objectInit ∈ wA := List.mem_filter.mpr ⟨zt1 (List.mem_of_getElem? (i := 122) (by decide +kernel)), (by decide +kernel)⟩
set_option maxRecDepth 20000 in
theorem qw220 : Cond.fieldLink RX7 9 "NinePortraits$State" "pays" "[I" ∈ wA := List.mem_filter.mpr ⟨zt1 (List.mem_of_getElem? (i := 123) (by decide +kernel)), (by decide +kernel)⟩
set_option maxRecDepth 20000 in
theorem qw223 : Cond.fieldLink RX7 15 "NinePortraits$State" "fears" "[I" ∈ wA := List.mem_filter.mpr ⟨zt1 (List.mem_of_getElem? (i := 126) (by decide +kernel)), (by decide +kernel)⟩
set_option maxRecDepth 20000 in
theorem qw226 : Cond.fieldLink RX7 18 "NinePortraits$State" "portraits" "[I" ∈ wA := List.mem_filter.mpr ⟨zt1 (List.mem_of_getElem? (i := 129) (by decide +kernel)), (by decide +kernel)⟩
set_option maxRecDepth 20000 in
theorem qw229 : Cond.fieldLink RX10 216 "NinePortraits$State" "painted" "I" ∈ wA := List.mem_filter.mpr ⟨zt1 (List.mem_of_getElem? (i := 132) (by decide +kernel)), (by decide +kernel)⟩
set_option maxRecDepth 20000 in
theorem qw232 : Cond.fieldLink RX10 174 "NinePortraits$State" "letters" "I" ∈ wA := List.mem_filter.mpr ⟨zt1 (List.mem_of_getElem? (i := 135) (by decide +kernel)), (by decide +kernel)⟩
set_option maxRecDepth 20000 in
theorem qw235 : Cond.fieldLink RX10 181 "NinePortraits$State" "shoes" "I" ∈ wA := List.mem_filter.mpr ⟨zt1 (List.mem_of_getElem? (i := 138) (by decide +kernel)), (by decide +kernel)⟩
set_option maxRecDepth 20000 in
theorem qw236 : Cond.fieldLink RX7 21 "NinePortraits$State" "wed" "I" ∈ wA := List.mem_filter.mpr ⟨zt1 (List.mem_of_getElem? (i := 139) (by decide +kernel)), (by decide +kernel)⟩
set_option maxRecDepth 20000 in
theorem qw237 : Cond.fieldLink RX10 237 "NinePortraits$State" "wed" "I" ∈ wA := List.mem_filter.mpr ⟨zt1 (List.mem_of_getElem? (i := 140) (by decide +kernel)), (by decide +kernel)⟩
set_option maxRecDepth 20000 in
theorem qw242 : Cond.fieldLink RX10 248 "NinePortraits$State" "month" "I" ∈ wA := List.mem_filter.mpr ⟨zt1 (List.mem_of_getElem? (i := 145) (by decide +kernel)), (by decide +kernel)⟩
set_option maxRecDepth 20000 in
theorem qw262 : Cond.classLink RX10 56 RX0 ∈ wA := List.mem_filter.mpr ⟨zt1 (List.mem_of_getElem? (i := 165) (by decide +kernel)), (by decide +kernel)⟩
set_option maxRecDepth 20000 in
theorem qw263 : Cond.instantiable RX0 3 ∈ wA := List.mem_filter.mpr ⟨zt1 (List.mem_of_getElem? (i := 166) (by decide +kernel)), (by decide +kernel)⟩
set_option maxRecDepth 20000 in
theorem qw265 : Cond.instanceMethod yX0_init ∈ wA := List.mem_filter.mpr ⟨zt1 (List.mem_of_getElem? (i := 168) (by decide +kernel)), (by decide +kernel)⟩
set_option maxRecDepth 20000 in
theorem qw266 : Cond.code yX0_init cX0_init 1 none ∈ wA := List.mem_filter.mpr ⟨zt1 (List.mem_of_getElem? (i := 169) (by decide +kernel)), (by decide +kernel)⟩
set_option maxRecDepth 20000 in
theorem qw267 : Cond.methodLink RX0 3 objectInit ∈ wA := List.mem_filter.mpr ⟨zt1 (List.mem_of_getElem? (i := 170) (by decide +kernel)), (by decide +kernel)⟩
set_option maxRecDepth 20000 in
theorem qw268 : Cond.fieldLink RX0 11 "NinePortraits$Acts" "rows" "[I" ∈ wA := List.mem_filter.mpr ⟨zt1 (List.mem_of_getElem? (i := 171) (by decide +kernel)), (by decide +kernel)⟩
set_option maxRecDepth 20000 in
theorem qw270 : Cond.fieldLink RX0 25 "NinePortraits$Acts" "count" "I" ∈ wA := List.mem_filter.mpr ⟨zt1 (List.mem_of_getElem? (i := 173) (by decide +kernel)), (by decide +kernel)⟩
set_option maxRecDepth 20000 in
theorem qw271 : Cond.fieldLink RX10 276 "NinePortraits$Acts" "count" "I" ∈ wA := List.mem_filter.mpr ⟨zt1 (List.mem_of_getElem? (i := 174) (by decide +kernel)), (by decide +kernel)⟩
set_option maxRecDepth 20000 in
theorem qw279 : Cond.classLink RX10 63 RX8 ∈ wA := List.mem_filter.mpr ⟨zt1 (List.mem_of_getElem? (i := 182) (by decide +kernel)), (by decide +kernel)⟩
set_option maxRecDepth 20000 in
theorem qw280 : Cond.instantiable RX8 7 ∈ wA := List.mem_filter.mpr ⟨zt1 (List.mem_of_getElem? (i := 183) (by decide +kernel)), (by decide +kernel)⟩
set_option maxRecDepth 20000 in
theorem qw281 : Cond.methodLink RX10 65 yX8_init ∈ wA := List.mem_filter.mpr ⟨zt1 (List.mem_of_getElem? (i := 184) (by decide +kernel)), (by decide +kernel)⟩
set_option maxRecDepth 20000 in
theorem qw282 : Cond.instanceMethod yX8_init ∈ wA := List.mem_filter.mpr ⟨zt1 (List.mem_of_getElem? (i := 185) (by decide +kernel)), (by decide +kernel)⟩
set_option maxRecDepth 20000 in
theorem qw283 : Cond.code yX8_init cX8_init 3 none ∈ wA := List.mem_filter.mpr ⟨zt1 (List.mem_of_getElem? (i := 186) (by decide +kernel)), (by decide +kernel)⟩
set_option maxRecDepth 20000 in
theorem qw284 : Cond.methodLink RX8 3 objectInit ∈ wA := List.mem_filter.mpr ⟨zt1 (List.mem_of_getElem? (i := 187) (by decide +kernel)), (by decide +kernel)⟩
set_option maxRecDepth 20000 in
theorem qw285 : Cond.fieldLink RX8 9 "NinePortraits$Studio" "oneLooks" "[I" ∈ wA := List.mem_filter.mpr ⟨zt1 (List.mem_of_getElem? (i := 188) (by decide +kernel)), (by decide +kernel)⟩
set_option maxRecDepth 20000 in
theorem qw287 : Cond.fieldLink RX8 15 "NinePortraits$Studio" "otherLooks" "[I" ∈ wA := List.mem_filter.mpr ⟨zt1 (List.mem_of_getElem? (i := 190) (by decide +kernel)), (by decide +kernel)⟩
set_option maxRecDepth 20000 in
theorem qw289 : Cond.fieldLink RX8 24 "NinePortraits$Studio" "court" "LNinePortraits$Court;" ∈ wA := List.mem_filter.mpr ⟨zt1 (List.mem_of_getElem? (i := 192) (by decide +kernel)), (by decide +kernel)⟩
set_option maxRecDepth 20000 in
theorem qw290 : Cond.fieldLink RX8 28 "NinePortraits$Studio" "state" "LNinePortraits$State;" ∈ wA := List.mem_filter.mpr ⟨zt1 (List.mem_of_getElem? (i := 193) (by decide +kernel)), (by decide +kernel)⟩
set_option maxRecDepth 20000 in
theorem qw291 : Cond.fieldLink RX8 18 "NinePortraits$Studio" "letters" "[I" ∈ wA := List.mem_filter.mpr ⟨zt1 (List.mem_of_getElem? (i := 194) (by decide +kernel)), (by decide +kernel)⟩
set_option maxRecDepth 20000 in
theorem qw292 : Cond.fieldLink RX8 21 "NinePortraits$Studio" "stack" "[I" ∈ wA := List.mem_filter.mpr ⟨zt1 (List.mem_of_getElem? (i := 195) (by decide +kernel)), (by decide +kernel)⟩
set_option maxRecDepth 20000 in
theorem qw294 : Cond.fieldLink RX10 199 "NinePortraits$Studio" "law" "LNinePortraits$Law;" ∈ wA := List.mem_filter.mpr ⟨zt1 (List.mem_of_getElem? (i := 197) (by decide +kernel)), (by decide +kernel)⟩
set_option maxRecDepth 20000 in
theorem qw310 : Cond.classLink RX10 72 RX6 ∈ wA := List.mem_filter.mpr ⟨zt1 (List.mem_of_getElem? (i := 213) (by decide +kernel)), (by decide +kernel)⟩
set_option maxRecDepth 20000 in
theorem qw311 : Cond.instantiable RX6 9 ∈ wA := List.mem_filter.mpr ⟨zt1 (List.mem_of_getElem? (i := 214) (by decide +kernel)), (by decide +kernel)⟩
set_option maxRecDepth 20000 in
theorem qw312 : Cond.methodLink RX10 74 yX6_init ∈ wA := List.mem_filter.mpr ⟨zt1 (List.mem_of_getElem? (i := 215) (by decide +kernel)), (by decide +kernel)⟩
set_option maxRecDepth 20000 in
theorem qw313 : Cond.instanceMethod yX6_init ∈ wA := List.mem_filter.mpr ⟨zt1 (List.mem_of_getElem? (i := 216) (by decide +kernel)), (by decide +kernel)⟩
set_option maxRecDepth 20000 in
theorem qw314 : Cond.code yX6_init cX6_init 4 none ∈ wA := List.mem_filter.mpr ⟨zt1 (List.mem_of_getElem? (i := 217) (by decide +kernel)), (by decide +kernel)⟩
set_option maxRecDepth 20000 in
theorem qw315 : Cond.methodLink RX6 3 objectInit ∈ wA := List.mem_filter.mpr ⟨zt1 (List.mem_of_getElem? (i := 218) (by decide +kernel)), (by decide +kernel)⟩
set_option maxRecDepth 20000 in
theorem qw316 : Cond.fieldLink RX6 25 "NinePortraits$Mind" "court" "LNinePortraits$Court;" ∈ wA := List.mem_filter.mpr ⟨zt1 (List.mem_of_getElem? (i := 219) (by decide +kernel)), (by decide +kernel)⟩
set_option maxRecDepth 20000 in
theorem qw317 : Cond.fieldLink RX6 29 "NinePortraits$Mind" "state" "LNinePortraits$State;" ∈ wA := List.mem_filter.mpr ⟨zt1 (List.mem_of_getElem? (i := 220) (by decide +kernel)), (by decide +kernel)⟩
set_option maxRecDepth 20000 in
theorem qw318 : Cond.fieldLink RX6 33 "NinePortraits$Mind" "studio" "LNinePortraits$Studio;" ∈ wA := List.mem_filter.mpr ⟨zt1 (List.mem_of_getElem? (i := 221) (by decide +kernel)), (by decide +kernel)⟩
set_option maxRecDepth 20000 in
theorem qw319 : Cond.fieldLink RX6 9 "NinePortraits$Mind" "weights" "[J" ∈ wA := List.mem_filter.mpr ⟨zt1 (List.mem_of_getElem? (i := 222) (by decide +kernel)), (by decide +kernel)⟩
set_option maxRecDepth 20000 in
theorem qw323 : Cond.fieldLink RX6 15 "NinePortraits$Mind" "views" "[I" ∈ wA := List.mem_filter.mpr ⟨zt1 (List.mem_of_getElem? (i := 226) (by decide +kernel)), (by decide +kernel)⟩
set_option maxRecDepth 20000 in
theorem qw324 : Cond.fieldLink RX6 19 "NinePortraits$Mind" "alike" "[I" ∈ wA := List.mem_filter.mpr ⟨zt1 (List.mem_of_getElem? (i := 227) (by decide +kernel)), (by decide +kernel)⟩
set_option maxRecDepth 20000 in
theorem qw325 : Cond.fieldLink RX6 22 "NinePortraits$Mind" "tellers" "[I" ∈ wA := List.mem_filter.mpr ⟨zt1 (List.mem_of_getElem? (i := 228) (by decide +kernel)), (by decide +kernel)⟩
set_option maxRecDepth 20000 in
theorem qw345 : Cond.arrayClass .long ∈ wA := List.mem_filter.mpr ⟨zt2 (List.mem_of_getElem? (i := 8) (by decide +kernel)), (by decide +kernel)⟩
set_option maxRecDepth 20000 in
theorem qw346 : Cond.classLink RX10 81 RX3 ∈ wA := List.mem_filter.mpr ⟨zt2 (List.mem_of_getElem? (i := 9) (by decide +kernel)), (by decide +kernel)⟩
set_option maxRecDepth 20000 in
theorem qw347 : Cond.instantiable RX3 1 ∈ wA := List.mem_filter.mpr ⟨zt2 (List.mem_of_getElem? (i := 10) (by decide +kernel)), (by decide +kernel)⟩
set_option maxRecDepth 20000 in
theorem qw349 : Cond.instanceMethod yX3_init ∈ wA := List.mem_filter.mpr ⟨zt2 (List.mem_of_getElem? (i := 12) (by decide +kernel)), (by decide +kernel)⟩
set_option maxRecDepth 20000 in
theorem qw350 : Cond.code yX3_init cX3_init 1 none ∈ wA := List.mem_filter.mpr ⟨zt2 (List.mem_of_getElem? (i := 13) (by decide +kernel)), (by decide +kernel)⟩
set_option maxRecDepth 20000 in
theorem qw351 : Cond.methodLink RX3 1 objectInit ∈ wA := List.mem_filter.mpr ⟨zt2 (List.mem_of_getElem? (i := 14) (by decide +kernel)), (by decide +kernel)⟩
set_option maxRecDepth 20000 in
theorem qw356 : Cond.fieldLink RX10 10 "NinePortraits" "tape" "LNinePortraits$Tape;" ∈ wA := List.mem_filter.mpr ⟨zt2 (List.mem_of_getElem? (i := 19) (by decide +kernel)), (by decide +kernel)⟩
set_option maxRecDepth 20000 in
theorem qw357 : Cond.fieldLink RX10 19 "NinePortraits" "courtReader" "LNinePortraits$CourtReader;" ∈ wA := List.mem_filter.mpr ⟨zt2 (List.mem_of_getElem? (i := 20) (by decide +kernel)), (by decide +kernel)⟩
set_option maxRecDepth 20000 in
theorem qw358 : Cond.fieldLink RX10 26 "NinePortraits" "lawReader" "LNinePortraits$LawReader;" ∈ wA := List.mem_filter.mpr ⟨zt2 (List.mem_of_getElem? (i := 21) (by decide +kernel)), (by decide +kernel)⟩
set_option maxRecDepth 20000 in
theorem qw359 : Cond.fieldLink RX10 33 "NinePortraits" "draft" "LNinePortraits$Court;" ∈ wA := List.mem_filter.mpr ⟨zt2 (List.mem_of_getElem? (i := 22) (by decide +kernel)), (by decide +kernel)⟩
set_option maxRecDepth 20000 in
theorem qw360 : Cond.fieldLink RX10 37 "NinePortraits" "court" "LNinePortraits$Court;" ∈ wA := List.mem_filter.mpr ⟨zt2 (List.mem_of_getElem? (i := 23) (by decide +kernel)), (by decide +kernel)⟩
set_option maxRecDepth 20000 in
theorem qw361 : Cond.fieldLink RX10 42 "NinePortraits" "laws" "[LNinePortraits$Law;" ∈ wA := List.mem_filter.mpr ⟨zt2 (List.mem_of_getElem? (i := 24) (by decide +kernel)), (by decide +kernel)⟩
set_option maxRecDepth 20000 in
theorem qw362 : Cond.fieldLink RX10 49 "NinePortraits" "state" "LNinePortraits$State;" ∈ wA := List.mem_filter.mpr ⟨zt2 (List.mem_of_getElem? (i := 25) (by decide +kernel)), (by decide +kernel)⟩
set_option maxRecDepth 20000 in
theorem qw363 : Cond.fieldLink RX10 53 "NinePortraits" "kept" "LNinePortraits$State;" ∈ wA := List.mem_filter.mpr ⟨zt2 (List.mem_of_getElem? (i := 26) (by decide +kernel)), (by decide +kernel)⟩
set_option maxRecDepth 20000 in
theorem qw364 : Cond.fieldLink RX10 59 "NinePortraits" "acts" "LNinePortraits$Acts;" ∈ wA := List.mem_filter.mpr ⟨zt2 (List.mem_of_getElem? (i := 27) (by decide +kernel)), (by decide +kernel)⟩
set_option maxRecDepth 20000 in
theorem qw365 : Cond.fieldLink RX10 68 "NinePortraits" "studio" "LNinePortraits$Studio;" ∈ wA := List.mem_filter.mpr ⟨zt2 (List.mem_of_getElem? (i := 28) (by decide +kernel)), (by decide +kernel)⟩
set_option maxRecDepth 20000 in
theorem qw366 : Cond.fieldLink RX10 77 "NinePortraits" "mind" "LNinePortraits$Mind;" ∈ wA := List.mem_filter.mpr ⟨zt2 (List.mem_of_getElem? (i := 29) (by decide +kernel)), (by decide +kernel)⟩
set_option maxRecDepth 20000 in
theorem qw367 : Cond.fieldLink RX10 84 "NinePortraits" "draws" "LNinePortraits$Draws;" ∈ wA := List.mem_filter.mpr ⟨zt2 (List.mem_of_getElem? (i := 30) (by decide +kernel)), (by decide +kernel)⟩
set_option maxRecDepth 20000 in
theorem qw368 : Cond.fieldLink RX10 88 "NinePortraits" "refused" "[I" ∈ wA := List.mem_filter.mpr ⟨zt2 (List.mem_of_getElem? (i := 31) (by decide +kernel)), (by decide +kernel)⟩
set_option maxRecDepth 20000 in
theorem qw369 : Cond.fieldLink RX10 114 "NinePortraits" "lawCount" "I" ∈ wA := List.mem_filter.mpr ⟨zt2 (List.mem_of_getElem? (i := 32) (by decide +kernel)), (by decide +kernel)⟩
set_option maxRecDepth 20000 in
theorem qw370 : Cond.fieldLink RX10 92 "NinePortraits" "lawThatHolds" "I" ∈ wA := List.mem_filter.mpr ⟨zt2 (List.mem_of_getElem? (i := 33) (by decide +kernel)), (by decide +kernel)⟩
set_option maxRecDepth 20000 in
theorem qw371 : Cond.fieldLink RX10 254 "NinePortraits" "bribery" "I" ∈ wA := List.mem_filter.mpr ⟨zt2 (List.mem_of_getElem? (i := 34) (by decide +kernel)), (by decide +kernel)⟩
set_option maxRecDepth 20000 in
theorem qw372 : Cond.fieldLink RX10 130 "NinePortraits" "hasImage" "Z" ∈ wA := List.mem_filter.mpr ⟨zt2 (List.mem_of_getElem? (i := 35) (by decide +kernel)), (by decide +kernel)⟩
set_option maxRecDepth 20000 in
theorem qw408 : Cond.methodLink RL 19 yX10_feed ∈ wA := List.mem_filter.mpr ⟨zt2 (List.mem_of_getElem? (i := 71) (by decide +kernel)), (by decide +kernel)⟩
set_option maxRecDepth 20000 in
theorem qw409 : Cond.instanceMethod yX10_feed ∈ wA := List.mem_filter.mpr ⟨zt2 (List.mem_of_getElem? (i := 72) (by decide +kernel)), (by decide +kernel)⟩
set_option maxRecDepth 20000 in
theorem qw410 : Cond.selects RX10 yX10_feed yX10_feed ∈ wA := List.mem_filter.mpr ⟨zt2 (List.mem_of_getElem? (i := 73) (by decide +kernel)), (by decide +kernel)⟩
set_option maxRecDepth 20000 in
theorem qw411 : Cond.code yX10_feed cX10_feed 7 (some .int) ∈ wA := List.mem_filter.mpr ⟨zt2 (List.mem_of_getElem? (i := 74) (by decide +kernel)), (by decide +kernel)⟩
set_option maxRecDepth 20000 in
theorem qw412 : Cond.methodLink RX10 99 yX9_add ∈ wA := List.mem_filter.mpr ⟨zt2 (List.mem_of_getElem? (i := 75) (by decide +kernel)), (by decide +kernel)⟩
set_option maxRecDepth 20000 in
theorem qw413 : Cond.instanceMethod yX9_add ∈ wA := List.mem_filter.mpr ⟨zt2 (List.mem_of_getElem? (i := 76) (by decide +kernel)), (by decide +kernel)⟩
set_option maxRecDepth 20000 in
theorem qw414 : Cond.selects RX9 yX9_add yX9_add ∈ wA := List.mem_filter.mpr ⟨zt2 (List.mem_of_getElem? (i := 77) (by decide +kernel)), (by decide +kernel)⟩
set_option maxRecDepth 20000 in
theorem qw415 : Cond.code yX9_add cX9_add 4 none ∈ wA := List.mem_filter.mpr ⟨zt2 (List.mem_of_getElem? (i := 78) (by decide +kernel)), (by decide +kernel)⟩
set_option maxRecDepth 20000 in
theorem qw416 : Cond.methodLink RL 24 yX10_end ∈ wA := List.mem_filter.mpr ⟨zt2 (List.mem_of_getElem? (i := 79) (by decide +kernel)), (by decide +kernel)⟩
set_option maxRecDepth 20000 in
theorem qw417 : Cond.instanceMethod yX10_end ∈ wA := List.mem_filter.mpr ⟨zt2 (List.mem_of_getElem? (i := 80) (by decide +kernel)), (by decide +kernel)⟩
set_option maxRecDepth 20000 in
theorem qw418 : Cond.selects RX10 yX10_end yX10_end ∈ wA := List.mem_filter.mpr ⟨zt2 (List.mem_of_getElem? (i := 81) (by decide +kernel)), (by decide +kernel)⟩
set_option maxRecDepth 20000 in
theorem qw419 : Cond.code yX10_end cX10_end 2 (some .boolean) ∈ wA := List.mem_filter.mpr ⟨zt2 (List.mem_of_getElem? (i := 82) (by decide +kernel)), (by decide +kernel)⟩
set_option maxRecDepth 20000 in
theorem qw420 : Cond.methodLink RL 29 yX10_fault ∈ wA := List.mem_filter.mpr ⟨zt2 (List.mem_of_getElem? (i := 83) (by decide +kernel)), (by decide +kernel)⟩
set_option maxRecDepth 20000 in
theorem qw421 : Cond.instanceMethod yX10_fault ∈ wA := List.mem_filter.mpr ⟨zt2 (List.mem_of_getElem? (i := 84) (by decide +kernel)), (by decide +kernel)⟩
set_option maxRecDepth 20000 in
theorem qw422 : Cond.selects RX10 yX10_fault yX10_fault ∈ wA := List.mem_filter.mpr ⟨zt2 (List.mem_of_getElem? (i := 85) (by decide +kernel)), (by decide +kernel)⟩
set_option maxRecDepth 20000 in
theorem qw423 : Cond.code yX10_fault cX10_fault 2 (some .int) ∈ wA := List.mem_filter.mpr ⟨zt2 (List.mem_of_getElem? (i := 86) (by decide +kernel)), (by decide +kernel)⟩
set_option maxRecDepth 20000 in
theorem qw424 : Cond.methodLink RX10 103 yX2_read ∈ wA := List.mem_filter.mpr ⟨zt2 (List.mem_of_getElem? (i := 87) (by decide +kernel)), (by decide +kernel)⟩
set_option maxRecDepth 20000 in
theorem qw425 : Cond.instanceMethod yX2_read ∈ wA := List.mem_filter.mpr ⟨zt2 (List.mem_of_getElem? (i := 88) (by decide +kernel)), (by decide +kernel)⟩
set_option maxRecDepth 20000 in
theorem qw426 : Cond.selects RX2 yX2_read yX2_read ∈ wA := List.mem_filter.mpr ⟨zt2 (List.mem_of_getElem? (i := 89) (by decide +kernel)), (by decide +kernel)⟩
set_option maxRecDepth 20000 in
theorem qw427 : Cond.code yX2_read cX2_read 5 (some .int) ∈ wA := List.mem_filter.mpr ⟨zt2 (List.mem_of_getElem? (i := 90) (by decide +kernel)), (by decide +kernel)⟩
set_option maxRecDepth 20000 in
theorem qw428 : Cond.fieldLink RX2 37 "NinePortraits$CourtReader" "RULE_DEFAULTS" "[I" ∈ wA := List.mem_filter.mpr ⟨zt2 (List.mem_of_getElem? (i := 91) (by decide +kernel)), (by decide +kernel)⟩
set_option maxRecDepth 20000 in
theorem qw430 : Cond.methodLink RX2 44 arraycopyName ∈ wA := List.mem_filter.mpr ⟨zt2 (List.mem_of_getElem? (i := 93) (by decide +kernel)), (by decide +kernel)⟩
set_option maxRecDepth 20000 in
theorem qw431 : Cond.static arraycopyName ∈ wA := List.mem_filter.mpr ⟨zt2 (List.mem_of_getElem? (i := 94) (by decide +kernel)), (by decide +kernel)⟩
set_option maxRecDepth 20000 in
theorem qw432 : Cond.native arraycopyName ∈ wA := List.mem_filter.mpr ⟨zt2 (List.mem_of_getElem? (i := 95) (by decide +kernel)), (by decide +kernel)⟩
set_option maxRecDepth 20000 in
theorem qw433 : Cond.methodLink RX2 50 yX2_clause ∈ wA := List.mem_filter.mpr ⟨zt2 (List.mem_of_getElem? (i := 96) (by decide +kernel)), (by decide +kernel)⟩
set_option maxRecDepth 20000 in
theorem qw435 : Cond.instanceMethod yX2_clause ∈ wA := List.mem_filter.mpr ⟨zt2 (List.mem_of_getElem? (i := 98) (by decide +kernel)), (by decide +kernel)⟩
set_option maxRecDepth 20000 in
theorem qw436 : Cond.code yX2_clause cX2_clause 3 (some .boolean) ∈ wA := List.mem_filter.mpr ⟨zt2 (List.mem_of_getElem? (i := 99) (by decide +kernel)), (by decide +kernel)⟩
set_option maxRecDepth 20000 in
theorem qw437 : Cond.methodLink RX2 61 yX9_peek ∈ wA := List.mem_filter.mpr ⟨zt2 (List.mem_of_getElem? (i := 100) (by decide +kernel)), (by decide +kernel)⟩
set_option maxRecDepth 20000 in
theorem qw438 : Cond.instanceMethod yX9_peek ∈ wA := List.mem_filter.mpr ⟨zt2 (List.mem_of_getElem? (i := 101) (by decide +kernel)), (by decide +kernel)⟩
set_option maxRecDepth 20000 in
theorem qw439 : Cond.selects RX9 yX9_peek yX9_peek ∈ wA := List.mem_filter.mpr ⟨zt2 (List.mem_of_getElem? (i := 102) (by decide +kernel)), (by decide +kernel)⟩
set_option maxRecDepth 20000 in
theorem qw440 : Cond.code yX9_peek cX9_peek 1 (some .int) ∈ wA := List.mem_filter.mpr ⟨zt2 (List.mem_of_getElem? (i := 103) (by decide +kernel)), (by decide +kernel)⟩
set_option maxRecDepth 20000 in
theorem qw472 : Cond.instanceMethod yX9_takes ∈ wA := List.mem_filter.mpr ⟨zt2 (List.mem_of_getElem? (i := 135) (by decide +kernel)), (by decide +kernel)⟩
set_option maxRecDepth 20000 in
theorem qw473 : Cond.selects RX9 yX9_takes yX9_takes ∈ wA := List.mem_filter.mpr ⟨zt2 (List.mem_of_getElem? (i := 136) (by decide +kernel)), (by decide +kernel)⟩
set_option maxRecDepth 20000 in
theorem qw474 : Cond.code yX9_takes cX9_takes 2 (some .boolean) ∈ wA := List.mem_filter.mpr ⟨zt2 (List.mem_of_getElem? (i := 137) (by decide +kernel)), (by decide +kernel)⟩
set_option maxRecDepth 20000 in
theorem qw475 : Cond.methodLink RX9 22 yX9_peek ∈ wA := List.mem_filter.mpr ⟨zt2 (List.mem_of_getElem? (i := 138) (by decide +kernel)), (by decide +kernel)⟩
set_option maxRecDepth 20000 in
theorem qw476 : Cond.methodLink RX10 107 yX5_read ∈ wA := List.mem_filter.mpr ⟨zt2 (List.mem_of_getElem? (i := 139) (by decide +kernel)), (by decide +kernel)⟩
set_option maxRecDepth 20000 in
theorem qw477 : Cond.instanceMethod yX5_read ∈ wA := List.mem_filter.mpr ⟨zt2 (List.mem_of_getElem? (i := 140) (by decide +kernel)), (by decide +kernel)⟩
set_option maxRecDepth 20000 in
theorem qw478 : Cond.selects RX5 yX5_read yX5_read ∈ wA := List.mem_filter.mpr ⟨zt2 (List.mem_of_getElem? (i := 141) (by decide +kernel)), (by decide +kernel)⟩
set_option maxRecDepth 20000 in
theorem qw479 : Cond.code yX5_read cX5_read 4 (some .int) ∈ wA := List.mem_filter.mpr ⟨zt2 (List.mem_of_getElem? (i := 142) (by decide +kernel)), (by decide +kernel)⟩
set_option maxRecDepth 20000 in
theorem qw480 : Cond.methodLink RX5 28 yX5_clause ∈ wA := List.mem_filter.mpr ⟨zt2 (List.mem_of_getElem? (i := 143) (by decide +kernel)), (by decide +kernel)⟩
set_option maxRecDepth 20000 in
theorem qw482 : Cond.instanceMethod yX5_clause ∈ wA := List.mem_filter.mpr ⟨zt2 (List.mem_of_getElem? (i := 145) (by decide +kernel)), (by decide +kernel)⟩
set_option maxRecDepth 20000 in
theorem qw483 : Cond.code yX5_clause cX5_clause 3 (some .boolean) ∈ wA := List.mem_filter.mpr ⟨zt2 (List.mem_of_getElem? (i := 146) (by decide +kernel)), (by decide +kernel)⟩
set_option maxRecDepth 20000 in
theorem qw484 : Cond.methodLink RX5 35 yX9_takes ∈ wA := List.mem_filter.mpr ⟨zt2 (List.mem_of_getElem? (i := 147) (by decide +kernel)), (by decide +kernel)⟩
set_option maxRecDepth 20000 in
theorem qw515 : Cond.methodLink RL 34 yX10_text ∈ wA := List.mem_filter.mpr ⟨zt2 (List.mem_of_getElem? (i := 178) (by decide +kernel)), (by decide +kernel)⟩
set_option maxRecDepth 20000 in
theorem qw516 : Cond.instanceMethod yX10_text ∈ wA := List.mem_filter.mpr ⟨zt2 (List.mem_of_getElem? (i := 179) (by decide +kernel)), (by decide +kernel)⟩
set_option maxRecDepth 20000 in
theorem qw517 : Cond.selects RX10 yX10_text yX10_text ∈ wA := List.mem_filter.mpr ⟨zt2 (List.mem_of_getElem? (i := 180) (by decide +kernel)), (by decide +kernel)⟩
set_option maxRecDepth 20000 in
theorem qw518 : Cond.code yX10_text cX10_text 2 (some .int) ∈ wA := List.mem_filter.mpr ⟨zt2 (List.mem_of_getElem? (i := 181) (by decide +kernel)), (by decide +kernel)⟩
set_option maxRecDepth 20000 in
theorem qw557 : Cond.instantiable RX4 1 ∈ wA := List.mem_filter.mpr ⟨zt2 (List.mem_of_getElem? (i := 220) (by decide +kernel)), (by decide +kernel)⟩
set_option maxRecDepth 20000 in
theorem qw580 : Cond.methodLink RL 38 yX10_rule ∈ wA := List.mem_filter.mpr ⟨zt3 (List.mem_of_getElem? (i := 3) (by decide +kernel)), (by decide +kernel)⟩
set_option maxRecDepth 20000 in
theorem qw581 : Cond.instanceMethod yX10_rule ∈ wA := List.mem_filter.mpr ⟨zt3 (List.mem_of_getElem? (i := 4) (by decide +kernel)), (by decide +kernel)⟩
set_option maxRecDepth 20000 in
theorem qw582 : Cond.selects RX10 yX10_rule yX10_rule ∈ wA := List.mem_filter.mpr ⟨zt3 (List.mem_of_getElem? (i := 5) (by decide +kernel)), (by decide +kernel)⟩
set_option maxRecDepth 20000 in
theorem qw583 : Cond.code yX10_rule cX10_rule 2 (some .int) ∈ wA := List.mem_filter.mpr ⟨zt3 (List.mem_of_getElem? (i := 6) (by decide +kernel)), (by decide +kernel)⟩
set_option maxRecDepth 20000 in
theorem qw584 : Cond.methodLink RX10 141 yX10_hasCourt ∈ wA := List.mem_filter.mpr ⟨zt3 (List.mem_of_getElem? (i := 7) (by decide +kernel)), (by decide +kernel)⟩
set_option maxRecDepth 20000 in
theorem qw586 : Cond.instanceMethod yX10_hasCourt ∈ wA := List.mem_filter.mpr ⟨zt3 (List.mem_of_getElem? (i := 9) (by decide +kernel)), (by decide +kernel)⟩
set_option maxRecDepth 20000 in
theorem qw587 : Cond.code yX10_hasCourt cX10_hasCourt 1 (some .boolean) ∈ wA := List.mem_filter.mpr ⟨zt3 (List.mem_of_getElem? (i := 10) (by decide +kernel)), (by decide +kernel)⟩
set_option maxRecDepth 20000 in
theorem qw596 : Cond.methodLink RL 52 yX10_painter ∈ wA := List.mem_filter.mpr ⟨zt3 (List.mem_of_getElem? (i := 19) (by decide +kernel)), (by decide +kernel)⟩
set_option maxRecDepth 20000 in
theorem qw597 : Cond.instanceMethod yX10_painter ∈ wA := List.mem_filter.mpr ⟨zt3 (List.mem_of_getElem? (i := 20) (by decide +kernel)), (by decide +kernel)⟩
set_option maxRecDepth 20000 in
theorem qw598 : Cond.selects RX10 yX10_painter yX10_painter ∈ wA := List.mem_filter.mpr ⟨zt3 (List.mem_of_getElem? (i := 21) (by decide +kernel)), (by decide +kernel)⟩
set_option maxRecDepth 20000 in
theorem qw599 : Cond.code yX10_painter cX10_painter 3 (some .int) ∈ wA := List.mem_filter.mpr ⟨zt3 (List.mem_of_getElem? (i := 22) (by decide +kernel)), (by decide +kernel)⟩
set_option maxRecDepth 20000 in
theorem qw600 : Cond.methodLink RX10 184 yX10_isPainter ∈ wA := List.mem_filter.mpr ⟨zt3 (List.mem_of_getElem? (i := 23) (by decide +kernel)), (by decide +kernel)⟩
set_option maxRecDepth 20000 in
theorem qw602 : Cond.instanceMethod yX10_isPainter ∈ wA := List.mem_filter.mpr ⟨zt3 (List.mem_of_getElem? (i := 25) (by decide +kernel)), (by decide +kernel)⟩
set_option maxRecDepth 20000 in
theorem qw603 : Cond.code yX10_isPainter cX10_isPainter 2 (some .boolean) ∈ wA := List.mem_filter.mpr ⟨zt3 (List.mem_of_getElem? (i := 26) (by decide +kernel)), (by decide +kernel)⟩
set_option maxRecDepth 20000 in
theorem qw617 : Cond.methodLink RL 56 yX10_law ∈ wA := List.mem_filter.mpr ⟨zt3 (List.mem_of_getElem? (i := 40) (by decide +kernel)), (by decide +kernel)⟩
set_option maxRecDepth 20000 in
theorem qw618 : Cond.instanceMethod yX10_law ∈ wA := List.mem_filter.mpr ⟨zt3 (List.mem_of_getElem? (i := 41) (by decide +kernel)), (by decide +kernel)⟩
set_option maxRecDepth 20000 in
theorem qw619 : Cond.selects RX10 yX10_law yX10_law ∈ wA := List.mem_filter.mpr ⟨zt3 (List.mem_of_getElem? (i := 42) (by decide +kernel)), (by decide +kernel)⟩
set_option maxRecDepth 20000 in
theorem qw620 : Cond.code yX10_law cX10_law 2 (some .boolean) ∈ wA := List.mem_filter.mpr ⟨zt3 (List.mem_of_getElem? (i := 43) (by decide +kernel)), (by decide +kernel)⟩
set_option maxRecDepth 20000 in
theorem qw621 : Cond.methodLink RL 60 yX10_flattery ∈ wA := List.mem_filter.mpr ⟨zt3 (List.mem_of_getElem? (i := 44) (by decide +kernel)), (by decide +kernel)⟩
set_option maxRecDepth 20000 in
theorem qw622 : Cond.instanceMethod yX10_flattery ∈ wA := List.mem_filter.mpr ⟨zt3 (List.mem_of_getElem? (i := 45) (by decide +kernel)), (by decide +kernel)⟩
set_option maxRecDepth 20000 in
theorem qw623 : Cond.selects RX10 yX10_flattery yX10_flattery ∈ wA := List.mem_filter.mpr ⟨zt3 (List.mem_of_getElem? (i := 46) (by decide +kernel)), (by decide +kernel)⟩
set_option maxRecDepth 20000 in
theorem qw624 : Cond.code yX10_flattery cX10_flattery 3 (some .int) ∈ wA := List.mem_filter.mpr ⟨zt3 (List.mem_of_getElem? (i := 47) (by decide +kernel)), (by decide +kernel)⟩
set_option maxRecDepth 20000 in
theorem qw625 : Cond.methodLink RX10 154 yX10_isBride ∈ wA := List.mem_filter.mpr ⟨zt3 (List.mem_of_getElem? (i := 48) (by decide +kernel)), (by decide +kernel)⟩
set_option maxRecDepth 20000 in
theorem qw627 : Cond.instanceMethod yX10_isBride ∈ wA := List.mem_filter.mpr ⟨zt3 (List.mem_of_getElem? (i := 50) (by decide +kernel)), (by decide +kernel)⟩
set_option maxRecDepth 20000 in
theorem qw628 : Cond.code yX10_isBride cX10_isBride 2 (some .boolean) ∈ wA := List.mem_filter.mpr ⟨zt3 (List.mem_of_getElem? (i := 51) (by decide +kernel)), (by decide +kernel)⟩
set_option maxRecDepth 20000 in
theorem qw636 : Cond.methodLink RL 64 yX10_shown ∈ wA := List.mem_filter.mpr ⟨zt3 (List.mem_of_getElem? (i := 59) (by decide +kernel)), (by decide +kernel)⟩
set_option maxRecDepth 20000 in
theorem qw637 : Cond.instanceMethod yX10_shown ∈ wA := List.mem_filter.mpr ⟨zt3 (List.mem_of_getElem? (i := 60) (by decide +kernel)), (by decide +kernel)⟩
set_option maxRecDepth 20000 in
theorem qw638 : Cond.selects RX10 yX10_shown yX10_shown ∈ wA := List.mem_filter.mpr ⟨zt3 (List.mem_of_getElem? (i := 61) (by decide +kernel)), (by decide +kernel)⟩
set_option maxRecDepth 20000 in
theorem qw639 : Cond.code yX10_shown cX10_shown 4 (some .int) ∈ wA := List.mem_filter.mpr ⟨zt3 (List.mem_of_getElem? (i := 62) (by decide +kernel)), (by decide +kernel)⟩
set_option maxRecDepth 20000 in
theorem qw680 : Cond.methodLink RL 69 yX10_paint ∈ wA := List.mem_filter.mpr ⟨zt3 (List.mem_of_getElem? (i := 103) (by decide +kernel)), (by decide +kernel)⟩
set_option maxRecDepth 20000 in
theorem qw681 : Cond.instanceMethod yX10_paint ∈ wA := List.mem_filter.mpr ⟨zt3 (List.mem_of_getElem? (i := 104) (by decide +kernel)), (by decide +kernel)⟩
set_option maxRecDepth 20000 in
theorem qw682 : Cond.selects RX10 yX10_paint yX10_paint ∈ wA := List.mem_filter.mpr ⟨zt3 (List.mem_of_getElem? (i := 105) (by decide +kernel)), (by decide +kernel)⟩
set_option maxRecDepth 20000 in
theorem qw683 : Cond.code yX10_paint cX10_paint 3 (some .int) ∈ wA := List.mem_filter.mpr ⟨zt3 (List.mem_of_getElem? (i := 106) (by decide +kernel)), (by decide +kernel)⟩
set_option maxRecDepth 20000 in
theorem qw684 : Cond.methodLink RX10 213 yX10_refuse ∈ wA := List.mem_filter.mpr ⟨zt3 (List.mem_of_getElem? (i := 107) (by decide +kernel)), (by decide +kernel)⟩
set_option maxRecDepth 20000 in
theorem qw686 : Cond.instanceMethod yX10_refuse ∈ wA := List.mem_filter.mpr ⟨zt3 (List.mem_of_getElem? (i := 109) (by decide +kernel)), (by decide +kernel)⟩
set_option maxRecDepth 20000 in
theorem qw687 : Cond.code yX10_refuse cX10_refuse 2 (some .int) ∈ wA := List.mem_filter.mpr ⟨zt3 (List.mem_of_getElem? (i := 110) (by decide +kernel)), (by decide +kernel)⟩
set_option maxRecDepth 20000 in
theorem qw710 : Cond.methodLink RL 73 yX10_pay ∈ wA := List.mem_filter.mpr ⟨zt3 (List.mem_of_getElem? (i := 133) (by decide +kernel)), (by decide +kernel)⟩
set_option maxRecDepth 20000 in
theorem qw711 : Cond.instanceMethod yX10_pay ∈ wA := List.mem_filter.mpr ⟨zt3 (List.mem_of_getElem? (i := 134) (by decide +kernel)), (by decide +kernel)⟩
set_option maxRecDepth 20000 in
theorem qw712 : Cond.selects RX10 yX10_pay yX10_pay ∈ wA := List.mem_filter.mpr ⟨zt3 (List.mem_of_getElem? (i := 135) (by decide +kernel)), (by decide +kernel)⟩
set_option maxRecDepth 20000 in
theorem qw713 : Cond.code yX10_pay cX10_pay 3 (some .int) ∈ wA := List.mem_filter.mpr ⟨zt3 (List.mem_of_getElem? (i := 136) (by decide +kernel)), (by decide +kernel)⟩
set_option maxRecDepth 20000 in
theorem qw714 : Cond.methodLink RX10 230 yX10_isDigit ∈ wA := List.mem_filter.mpr ⟨zt3 (List.mem_of_getElem? (i := 137) (by decide +kernel)), (by decide +kernel)⟩
set_option maxRecDepth 20000 in
theorem qw715 : Cond.static yX10_isDigit ∈ wA := List.mem_filter.mpr ⟨zt3 (List.mem_of_getElem? (i := 138) (by decide +kernel)), (by decide +kernel)⟩
set_option maxRecDepth 20000 in
theorem qw716 : Cond.code yX10_isDigit cX10_isDigit 1 (some .boolean) ∈ wA := List.mem_filter.mpr ⟨zt3 (List.mem_of_getElem? (i := 139) (by decide +kernel)), (by decide +kernel)⟩
set_option maxRecDepth 20000 in
theorem qw717 : Cond.methodLink RL 77 yX10_threaten ∈ wA := List.mem_filter.mpr ⟨zt3 (List.mem_of_getElem? (i := 140) (by decide +kernel)), (by decide +kernel)⟩
set_option maxRecDepth 20000 in
theorem qw718 : Cond.instanceMethod yX10_threaten ∈ wA := List.mem_filter.mpr ⟨zt3 (List.mem_of_getElem? (i := 141) (by decide +kernel)), (by decide +kernel)⟩
set_option maxRecDepth 20000 in
theorem qw719 : Cond.selects RX10 yX10_threaten yX10_threaten ∈ wA := List.mem_filter.mpr ⟨zt3 (List.mem_of_getElem? (i := 142) (by decide +kernel)), (by decide +kernel)⟩
set_option maxRecDepth 20000 in
theorem qw720 : Cond.code yX10_threaten cX10_threaten 2 (some .int) ∈ wA := List.mem_filter.mpr ⟨zt3 (List.mem_of_getElem? (i := 143) (by decide +kernel)), (by decide +kernel)⟩
set_option maxRecDepth 20000 in
theorem qw721 : Cond.methodLink RL 81 yX10_letter ∈ wA := List.mem_filter.mpr ⟨zt3 (List.mem_of_getElem? (i := 144) (by decide +kernel)), (by decide +kernel)⟩
set_option maxRecDepth 20000 in
theorem qw722 : Cond.instanceMethod yX10_letter ∈ wA := List.mem_filter.mpr ⟨zt3 (List.mem_of_getElem? (i := 145) (by decide +kernel)), (by decide +kernel)⟩
set_option maxRecDepth 20000 in
theorem qw723 : Cond.selects RX10 yX10_letter yX10_letter ∈ wA := List.mem_filter.mpr ⟨zt3 (List.mem_of_getElem? (i := 146) (by decide +kernel)), (by decide +kernel)⟩
set_option maxRecDepth 20000 in
theorem qw724 : Cond.code yX10_letter cX10_letter 2 (some .int) ∈ wA := List.mem_filter.mpr ⟨zt3 (List.mem_of_getElem? (i := 147) (by decide +kernel)), (by decide +kernel)⟩
set_option maxRecDepth 20000 in
theorem qw725 : Cond.methodLink RX10 233 yX10_paysToHear ∈ wA := List.mem_filter.mpr ⟨zt3 (List.mem_of_getElem? (i := 148) (by decide +kernel)), (by decide +kernel)⟩
set_option maxRecDepth 20000 in
theorem qw727 : Cond.instanceMethod yX10_paysToHear ∈ wA := List.mem_filter.mpr ⟨zt3 (List.mem_of_getElem? (i := 150) (by decide +kernel)), (by decide +kernel)⟩
set_option maxRecDepth 20000 in
theorem qw728 : Cond.code yX10_paysToHear cX10_paysToHear 5 (some .boolean) ∈ wA := List.mem_filter.mpr ⟨zt3 (List.mem_of_getElem? (i := 151) (by decide +kernel)), (by decide +kernel)⟩
set_option maxRecDepth 20000 in
theorem qw730 : Cond.methodLink RL 85 yX10_shoe ∈ wA := List.mem_filter.mpr ⟨zt3 (List.mem_of_getElem? (i := 153) (by decide +kernel)), (by decide +kernel)⟩
set_option maxRecDepth 20000 in
theorem qw731 : Cond.instanceMethod yX10_shoe ∈ wA := List.mem_filter.mpr ⟨zt3 (List.mem_of_getElem? (i := 154) (by decide +kernel)), (by decide +kernel)⟩
set_option maxRecDepth 20000 in
theorem qw732 : Cond.selects RX10 yX10_shoe yX10_shoe ∈ wA := List.mem_filter.mpr ⟨zt3 (List.mem_of_getElem? (i := 155) (by decide +kernel)), (by decide +kernel)⟩
set_option maxRecDepth 20000 in
theorem qw733 : Cond.code yX10_shoe cX10_shoe 2 (some .int) ∈ wA := List.mem_filter.mpr ⟨zt3 (List.mem_of_getElem? (i := 156) (by decide +kernel)), (by decide +kernel)⟩
set_option maxRecDepth 20000 in
theorem qw734 : Cond.methodLink RL 89 yX10_wed ∈ wA := List.mem_filter.mpr ⟨zt3 (List.mem_of_getElem? (i := 157) (by decide +kernel)), (by decide +kernel)⟩
set_option maxRecDepth 20000 in
theorem qw735 : Cond.instanceMethod yX10_wed ∈ wA := List.mem_filter.mpr ⟨zt3 (List.mem_of_getElem? (i := 158) (by decide +kernel)), (by decide +kernel)⟩
set_option maxRecDepth 20000 in
theorem qw736 : Cond.selects RX10 yX10_wed yX10_wed ∈ wA := List.mem_filter.mpr ⟨zt3 (List.mem_of_getElem? (i := 159) (by decide +kernel)), (by decide +kernel)⟩
set_option maxRecDepth 20000 in
theorem qw737 : Cond.code yX10_wed cX10_wed 2 (some .int) ∈ wA := List.mem_filter.mpr ⟨zt3 (List.mem_of_getElem? (i := 160) (by decide +kernel)), (by decide +kernel)⟩
set_option maxRecDepth 20000 in
theorem qw743 : Cond.methodLink RL 93 yX10_annul ∈ wA := List.mem_filter.mpr ⟨zt3 (List.mem_of_getElem? (i := 166) (by decide +kernel)), (by decide +kernel)⟩
set_option maxRecDepth 20000 in
theorem qw744 : Cond.instanceMethod yX10_annul ∈ wA := List.mem_filter.mpr ⟨zt3 (List.mem_of_getElem? (i := 167) (by decide +kernel)), (by decide +kernel)⟩
set_option maxRecDepth 20000 in
theorem qw745 : Cond.selects RX10 yX10_annul yX10_annul ∈ wA := List.mem_filter.mpr ⟨zt3 (List.mem_of_getElem? (i := 168) (by decide +kernel)), (by decide +kernel)⟩
set_option maxRecDepth 20000 in
theorem qw746 : Cond.code yX10_annul cX10_annul 2 (some .int) ∈ wA := List.mem_filter.mpr ⟨zt3 (List.mem_of_getElem? (i := 169) (by decide +kernel)), (by decide +kernel)⟩
set_option maxRecDepth 20000 in
theorem qw759 : Cond.methodLink RL 97 yX10_months ∈ wA := List.mem_filter.mpr ⟨zt3 (List.mem_of_getElem? (i := 182) (by decide +kernel)), (by decide +kernel)⟩
set_option maxRecDepth 20000 in
theorem qw760 : Cond.instanceMethod yX10_months ∈ wA := List.mem_filter.mpr ⟨zt3 (List.mem_of_getElem? (i := 183) (by decide +kernel)), (by decide +kernel)⟩
set_option maxRecDepth 20000 in
theorem qw761 : Cond.selects RX10 yX10_months yX10_months ∈ wA := List.mem_filter.mpr ⟨zt3 (List.mem_of_getElem? (i := 184) (by decide +kernel)), (by decide +kernel)⟩
set_option maxRecDepth 20000 in
theorem qw762 : Cond.code yX10_months cX10_months 3 (some .int) ∈ wA := List.mem_filter.mpr ⟨zt3 (List.mem_of_getElem? (i := 185) (by decide +kernel)), (by decide +kernel)⟩
set_option maxRecDepth 20000 in
theorem qw768 : Cond.methodLink RL 101 yX10_bribes ∈ wA := List.mem_filter.mpr ⟨zt3 (List.mem_of_getElem? (i := 191) (by decide +kernel)), (by decide +kernel)⟩
set_option maxRecDepth 20000 in
theorem qw769 : Cond.instanceMethod yX10_bribes ∈ wA := List.mem_filter.mpr ⟨zt3 (List.mem_of_getElem? (i := 192) (by decide +kernel)), (by decide +kernel)⟩
set_option maxRecDepth 20000 in
theorem qw770 : Cond.selects RX10 yX10_bribes yX10_bribes ∈ wA := List.mem_filter.mpr ⟨zt3 (List.mem_of_getElem? (i := 193) (by decide +kernel)), (by decide +kernel)⟩
set_option maxRecDepth 20000 in
theorem qw771 : Cond.code yX10_bribes cX10_bribes 2 (some .boolean) ∈ wA := List.mem_filter.mpr ⟨zt3 (List.mem_of_getElem? (i := 194) (by decide +kernel)), (by decide +kernel)⟩
set_option maxRecDepth 20000 in
theorem qw772 : Cond.methodLink RL 107 yX10_decades ∈ wA := List.mem_filter.mpr ⟨zt3 (List.mem_of_getElem? (i := 195) (by decide +kernel)), (by decide +kernel)⟩
set_option maxRecDepth 20000 in
theorem qw773 : Cond.instanceMethod yX10_decades ∈ wA := List.mem_filter.mpr ⟨zt3 (List.mem_of_getElem? (i := 196) (by decide +kernel)), (by decide +kernel)⟩
set_option maxRecDepth 20000 in
theorem qw774 : Cond.selects RX10 yX10_decades yX10_decades ∈ wA := List.mem_filter.mpr ⟨zt3 (List.mem_of_getElem? (i := 197) (by decide +kernel)), (by decide +kernel)⟩
set_option maxRecDepth 20000 in
theorem qw775 : Cond.code yX10_decades cX10_decades 5 (some .int) ∈ wA := List.mem_filter.mpr ⟨zt3 (List.mem_of_getElem? (i := 198) (by decide +kernel)), (by decide +kernel)⟩
set_option maxRecDepth 20000 in
theorem qw794 : Cond.methodLink RL 112 yX10_status ∈ wA := List.mem_filter.mpr ⟨zt3 (List.mem_of_getElem? (i := 217) (by decide +kernel)), (by decide +kernel)⟩
set_option maxRecDepth 20000 in
theorem qw795 : Cond.instanceMethod yX10_status ∈ wA := List.mem_filter.mpr ⟨zt3 (List.mem_of_getElem? (i := 218) (by decide +kernel)), (by decide +kernel)⟩
set_option maxRecDepth 20000 in
theorem qw796 : Cond.selects RX10 yX10_status yX10_status ∈ wA := List.mem_filter.mpr ⟨zt3 (List.mem_of_getElem? (i := 219) (by decide +kernel)), (by decide +kernel)⟩
set_option maxRecDepth 20000 in
theorem qw797 : Cond.code yX10_status cX10_status 2 (some .int) ∈ wA := List.mem_filter.mpr ⟨zt3 (List.mem_of_getElem? (i := 220) (by decide +kernel)), (by decide +kernel)⟩
set_option maxRecDepth 20000 in
theorem qw798 : Cond.methodLink RL 116 yX10_undo ∈ wA := List.mem_filter.mpr ⟨zt3 (List.mem_of_getElem? (i := 221) (by decide +kernel)), (by decide +kernel)⟩
set_option maxRecDepth 20000 in
theorem qw799 : Cond.instanceMethod yX10_undo ∈ wA := List.mem_filter.mpr ⟨zt3 (List.mem_of_getElem? (i := 222) (by decide +kernel)), (by decide +kernel)⟩
set_option maxRecDepth 20000 in
theorem qw800 : Cond.selects RX10 yX10_undo yX10_undo ∈ wA := List.mem_filter.mpr ⟨zt3 (List.mem_of_getElem? (i := 223) (by decide +kernel)), (by decide +kernel)⟩
set_option maxRecDepth 20000 in
theorem qw801 : Cond.code yX10_undo cX10_undo 1 (some .int) ∈ wA := List.mem_filter.mpr ⟨zt3 (List.mem_of_getElem? (i := 224) (by decide +kernel)), (by decide +kernel)⟩
set_option maxRecDepth 20000 in
theorem qw802 : Cond.methodLink RX10 272 yX0_takeBack ∈ wA := List.mem_filter.mpr ⟨zt3 (List.mem_of_getElem? (i := 225) (by decide +kernel)), (by decide +kernel)⟩
set_option maxRecDepth 20000 in
theorem qw803 : Cond.instanceMethod yX0_takeBack ∈ wA := List.mem_filter.mpr ⟨zt3 (List.mem_of_getElem? (i := 226) (by decide +kernel)), (by decide +kernel)⟩
set_option maxRecDepth 20000 in
theorem qw804 : Cond.selects RX0 yX0_takeBack yX0_takeBack ∈ wA := List.mem_filter.mpr ⟨zt3 (List.mem_of_getElem? (i := 227) (by decide +kernel)), (by decide +kernel)⟩
set_option maxRecDepth 20000 in
theorem qw805 : Cond.code yX0_takeBack cX0_takeBack 2 (some .boolean) ∈ wA := List.mem_filter.mpr ⟨zt3 (List.mem_of_getElem? (i := 228) (by decide +kernel)), (by decide +kernel)⟩
set_option maxRecDepth 20000 in
theorem qw810 : Cond.methodLink RL 120 yX10_portrait ∈ wA := List.mem_filter.mpr ⟨zt3 (List.mem_of_getElem? (i := 233) (by decide +kernel)), (by decide +kernel)⟩
set_option maxRecDepth 20000 in
theorem qw811 : Cond.instanceMethod yX10_portrait ∈ wA := List.mem_filter.mpr ⟨zt3 (List.mem_of_getElem? (i := 234) (by decide +kernel)), (by decide +kernel)⟩
set_option maxRecDepth 20000 in
theorem qw812 : Cond.selects RX10 yX10_portrait yX10_portrait ∈ wA := List.mem_filter.mpr ⟨zt3 (List.mem_of_getElem? (i := 235) (by decide +kernel)), (by decide +kernel)⟩
set_option maxRecDepth 20000 in
theorem qw813 : Cond.code yX10_portrait cX10_portrait 3 (some .int) ∈ wA := List.mem_filter.mpr ⟨zt3 (List.mem_of_getElem? (i := 236) (by decide +kernel)), (by decide +kernel)⟩
set_option maxRecDepth 20000 in
theorem qw815 : Cond.methodLink RL 124 yX10_fits ∈ wA := List.mem_filter.mpr ⟨zt3 (List.mem_of_getElem? (i := 238) (by decide +kernel)), (by decide +kernel)⟩
set_option maxRecDepth 20000 in
theorem qw816 : Cond.instanceMethod yX10_fits ∈ wA := List.mem_filter.mpr ⟨zt3 (List.mem_of_getElem? (i := 239) (by decide +kernel)), (by decide +kernel)⟩
set_option maxRecDepth 20000 in
theorem qw817 : Cond.selects RX10 yX10_fits yX10_fits ∈ wA := List.mem_filter.mpr ⟨zt4 (List.mem_of_getElem? (i := 0) (by decide +kernel)), (by decide +kernel)⟩
set_option maxRecDepth 20000 in
theorem qw818 : Cond.code yX10_fits cX10_fits 2 (some .int) ∈ wA := List.mem_filter.mpr ⟨zt4 (List.mem_of_getElem? (i := 1) (by decide +kernel)), (by decide +kernel)⟩
set_option maxRecDepth 20000 in
theorem qw825 : Cond.methodLink RL 128 yX10_belief ∈ wA := List.mem_filter.mpr ⟨zt4 (List.mem_of_getElem? (i := 8) (by decide +kernel)), (by decide +kernel)⟩
set_option maxRecDepth 20000 in
theorem qw826 : Cond.instanceMethod yX10_belief ∈ wA := List.mem_filter.mpr ⟨zt4 (List.mem_of_getElem? (i := 9) (by decide +kernel)), (by decide +kernel)⟩
set_option maxRecDepth 20000 in
theorem qw827 : Cond.selects RX10 yX10_belief yX10_belief ∈ wA := List.mem_filter.mpr ⟨zt4 (List.mem_of_getElem? (i := 10) (by decide +kernel)), (by decide +kernel)⟩
set_option maxRecDepth 20000 in
theorem qw828 : Cond.code yX10_belief cX10_belief 3 (some .int) ∈ wA := List.mem_filter.mpr ⟨zt4 (List.mem_of_getElem? (i := 11) (by decide +kernel)), (by decide +kernel)⟩
set_option maxRecDepth 20000 in
theorem qw856 : Cond.methodLink RL 132 yX10_likely ∈ wA := List.mem_filter.mpr ⟨zt4 (List.mem_of_getElem? (i := 39) (by decide +kernel)), (by decide +kernel)⟩
set_option maxRecDepth 20000 in
theorem qw857 : Cond.instanceMethod yX10_likely ∈ wA := List.mem_filter.mpr ⟨zt4 (List.mem_of_getElem? (i := 40) (by decide +kernel)), (by decide +kernel)⟩
set_option maxRecDepth 20000 in
theorem qw858 : Cond.selects RX10 yX10_likely yX10_likely ∈ wA := List.mem_filter.mpr ⟨zt4 (List.mem_of_getElem? (i := 41) (by decide +kernel)), (by decide +kernel)⟩
set_option maxRecDepth 20000 in
theorem qw859 : Cond.code yX10_likely cX10_likely 3 (some .int) ∈ wA := List.mem_filter.mpr ⟨zt4 (List.mem_of_getElem? (i := 42) (by decide +kernel)), (by decide +kernel)⟩
set_option maxRecDepth 20000 in
theorem qw860 : Cond.methodLink RL 136 yX10_sure ∈ wA := List.mem_filter.mpr ⟨zt4 (List.mem_of_getElem? (i := 43) (by decide +kernel)), (by decide +kernel)⟩
set_option maxRecDepth 20000 in
theorem qw861 : Cond.instanceMethod yX10_sure ∈ wA := List.mem_filter.mpr ⟨zt4 (List.mem_of_getElem? (i := 44) (by decide +kernel)), (by decide +kernel)⟩
set_option maxRecDepth 20000 in
theorem qw862 : Cond.selects RX10 yX10_sure yX10_sure ∈ wA := List.mem_filter.mpr ⟨zt4 (List.mem_of_getElem? (i := 45) (by decide +kernel)), (by decide +kernel)⟩
set_option maxRecDepth 20000 in
theorem qw863 : Cond.code yX10_sure cX10_sure 3 (some .int) ∈ wA := List.mem_filter.mpr ⟨zt4 (List.mem_of_getElem? (i := 46) (by decide +kernel)), (by decide +kernel)⟩
set_option maxRecDepth 20000 in
theorem qw865 : Cond.methodLink RL 140 yX10_next ∈ wA := List.mem_filter.mpr ⟨zt4 (List.mem_of_getElem? (i := 48) (by decide +kernel)), (by decide +kernel)⟩
set_option maxRecDepth 20000 in
theorem qw866 : Cond.instanceMethod yX10_next ∈ wA := List.mem_filter.mpr ⟨zt4 (List.mem_of_getElem? (i := 49) (by decide +kernel)), (by decide +kernel)⟩
set_option maxRecDepth 20000 in
theorem qw867 : Cond.selects RX10 yX10_next yX10_next ∈ wA := List.mem_filter.mpr ⟨zt4 (List.mem_of_getElem? (i := 50) (by decide +kernel)), (by decide +kernel)⟩
set_option maxRecDepth 20000 in
theorem qw868 : Cond.code yX10_next cX10_next 2 (some .int) ∈ wA := List.mem_filter.mpr ⟨zt4 (List.mem_of_getElem? (i := 51) (by decide +kernel)), (by decide +kernel)⟩
set_option maxRecDepth 20000 in
theorem qw880 : Cond.methodLink RL 144 yX10_apart ∈ wA := List.mem_filter.mpr ⟨zt4 (List.mem_of_getElem? (i := 63) (by decide +kernel)), (by decide +kernel)⟩
set_option maxRecDepth 20000 in
theorem qw881 : Cond.instanceMethod yX10_apart ∈ wA := List.mem_filter.mpr ⟨zt4 (List.mem_of_getElem? (i := 64) (by decide +kernel)), (by decide +kernel)⟩
set_option maxRecDepth 20000 in
theorem qw882 : Cond.selects RX10 yX10_apart yX10_apart ∈ wA := List.mem_filter.mpr ⟨zt4 (List.mem_of_getElem? (i := 65) (by decide +kernel)), (by decide +kernel)⟩
set_option maxRecDepth 20000 in
theorem qw883 : Cond.code yX10_apart cX10_apart 2 (some .int) ∈ wA := List.mem_filter.mpr ⟨zt4 (List.mem_of_getElem? (i := 66) (by decide +kernel)), (by decide +kernel)⟩
set_option maxRecDepth 20000 in
theorem qw902 : Cond.methodLink RL 148 yX10_worth ∈ wA := List.mem_filter.mpr ⟨zt4 (List.mem_of_getElem? (i := 85) (by decide +kernel)), (by decide +kernel)⟩
set_option maxRecDepth 20000 in
theorem qw903 : Cond.instanceMethod yX10_worth ∈ wA := List.mem_filter.mpr ⟨zt4 (List.mem_of_getElem? (i := 86) (by decide +kernel)), (by decide +kernel)⟩
set_option maxRecDepth 20000 in
theorem qw904 : Cond.selects RX10 yX10_worth yX10_worth ∈ wA := List.mem_filter.mpr ⟨zt4 (List.mem_of_getElem? (i := 87) (by decide +kernel)), (by decide +kernel)⟩
set_option maxRecDepth 20000 in
theorem qw905 : Cond.code yX10_worth cX10_worth 3 (some .int) ∈ wA := List.mem_filter.mpr ⟨zt4 (List.mem_of_getElem? (i := 88) (by decide +kernel)), (by decide +kernel)⟩
set_option maxRecDepth 20000 in
theorem qw913 : Cond.methodLink RL 152 yX10_chooses ∈ wA := List.mem_filter.mpr ⟨zt4 (List.mem_of_getElem? (i := 96) (by decide +kernel)), (by decide +kernel)⟩
set_option maxRecDepth 20000 in
theorem qw914 : Cond.instanceMethod yX10_chooses ∈ wA := List.mem_filter.mpr ⟨zt4 (List.mem_of_getElem? (i := 97) (by decide +kernel)), (by decide +kernel)⟩
set_option maxRecDepth 20000 in
theorem qw915 : Cond.selects RX10 yX10_chooses yX10_chooses ∈ wA := List.mem_filter.mpr ⟨zt4 (List.mem_of_getElem? (i := 98) (by decide +kernel)), (by decide +kernel)⟩
set_option maxRecDepth 20000 in
theorem qw916 : Cond.code yX10_chooses cX10_chooses 2 (some .int) ∈ wA := List.mem_filter.mpr ⟨zt4 (List.mem_of_getElem? (i := 99) (by decide +kernel)), (by decide +kernel)⟩
set_option maxRecDepth 20000 in
theorem qw927 : Cond.methodLink RL 156 yX10_game ∈ wA := List.mem_filter.mpr ⟨zt4 (List.mem_of_getElem? (i := 110) (by decide +kernel)), (by decide +kernel)⟩
set_option maxRecDepth 20000 in
theorem qw928 : Cond.instanceMethod yX10_game ∈ wA := List.mem_filter.mpr ⟨zt4 (List.mem_of_getElem? (i := 111) (by decide +kernel)), (by decide +kernel)⟩
set_option maxRecDepth 20000 in
theorem qw929 : Cond.selects RX10 yX10_game yX10_game ∈ wA := List.mem_filter.mpr ⟨zt4 (List.mem_of_getElem? (i := 112) (by decide +kernel)), (by decide +kernel)⟩
set_option maxRecDepth 20000 in
theorem qw930 : Cond.code yX10_game cX10_game 9 (some .int) ∈ wA := List.mem_filter.mpr ⟨zt4 (List.mem_of_getElem? (i := 113) (by decide +kernel)), (by decide +kernel)⟩
set_option maxRecDepth 20000 in
theorem qw931 : Cond.methodLink RX10 310 yX10_canPlay ∈ wA := List.mem_filter.mpr ⟨zt4 (List.mem_of_getElem? (i := 114) (by decide +kernel)), (by decide +kernel)⟩
set_option maxRecDepth 20000 in
theorem qw933 : Cond.instanceMethod yX10_canPlay ∈ wA := List.mem_filter.mpr ⟨zt4 (List.mem_of_getElem? (i := 116) (by decide +kernel)), (by decide +kernel)⟩
set_option maxRecDepth 20000 in
theorem qw934 : Cond.code yX10_canPlay cX10_canPlay 4 (some .boolean) ∈ wA := List.mem_filter.mpr ⟨zt4 (List.mem_of_getElem? (i := 117) (by decide +kernel)), (by decide +kernel)⟩
set_option maxRecDepth 20000 in
theorem qw935 : Cond.constant RX10 313 (-1000000) ∈ wA := List.mem_filter.mpr ⟨zt4 (List.mem_of_getElem? (i := 118) (by decide +kernel)), (by decide +kernel)⟩
set_option maxRecDepth 20000 in
theorem qw940 : Cond.methodLink RL 161 yX10_rests ∈ wA := List.mem_filter.mpr ⟨zt4 (List.mem_of_getElem? (i := 123) (by decide +kernel)), (by decide +kernel)⟩
set_option maxRecDepth 20000 in
theorem qw941 : Cond.instanceMethod yX10_rests ∈ wA := List.mem_filter.mpr ⟨zt4 (List.mem_of_getElem? (i := 124) (by decide +kernel)), (by decide +kernel)⟩
set_option maxRecDepth 20000 in
theorem qw942 : Cond.selects RX10 yX10_rests yX10_rests ∈ wA := List.mem_filter.mpr ⟨zt4 (List.mem_of_getElem? (i := 125) (by decide +kernel)), (by decide +kernel)⟩
set_option maxRecDepth 20000 in
theorem qw943 : Cond.code yX10_rests cX10_rests 8 (some .int) ∈ wA := List.mem_filter.mpr ⟨zt4 (List.mem_of_getElem? (i := 126) (by decide +kernel)), (by decide +kernel)⟩
set_option maxRecDepth 20000 in
theorem qw952 : Cond.methodLink RL 166 yX10_truth ∈ wA := List.mem_filter.mpr ⟨zt4 (List.mem_of_getElem? (i := 135) (by decide +kernel)), (by decide +kernel)⟩
set_option maxRecDepth 20000 in
theorem qw953 : Cond.instanceMethod yX10_truth ∈ wA := List.mem_filter.mpr ⟨zt4 (List.mem_of_getElem? (i := 136) (by decide +kernel)), (by decide +kernel)⟩
set_option maxRecDepth 20000 in
theorem qw954 : Cond.selects RX10 yX10_truth yX10_truth ∈ wA := List.mem_filter.mpr ⟨zt4 (List.mem_of_getElem? (i := 137) (by decide +kernel)), (by decide +kernel)⟩
set_option maxRecDepth 20000 in
theorem qw955 : Cond.code yX10_truth cX10_truth 5 (some .int) ∈ wA := List.mem_filter.mpr ⟨zt4 (List.mem_of_getElem? (i := 138) (by decide +kernel)), (by decide +kernel)⟩
set_option maxRecDepth 20000 in
theorem qw956 : Cond.methodLink RL 170 yX10_cheapest ∈ wA := List.mem_filter.mpr ⟨zt4 (List.mem_of_getElem? (i := 139) (by decide +kernel)), (by decide +kernel)⟩
set_option maxRecDepth 20000 in
theorem qw957 : Cond.instanceMethod yX10_cheapest ∈ wA := List.mem_filter.mpr ⟨zt4 (List.mem_of_getElem? (i := 140) (by decide +kernel)), (by decide +kernel)⟩
set_option maxRecDepth 20000 in
theorem qw958 : Cond.selects RX10 yX10_cheapest yX10_cheapest ∈ wA := List.mem_filter.mpr ⟨zt4 (List.mem_of_getElem? (i := 141) (by decide +kernel)), (by decide +kernel)⟩
set_option maxRecDepth 20000 in
theorem qw959 : Cond.code yX10_cheapest cX10_cheapest 7 (some .int) ∈ wA := List.mem_filter.mpr ⟨zt4 (List.mem_of_getElem? (i := 142) (by decide +kernel)), (by decide +kernel)⟩
set_option maxRecDepth 20000 in
theorem qw966 : Cond.methodLink RL 174 yX10_looks ∈ wA := List.mem_filter.mpr ⟨zt4 (List.mem_of_getElem? (i := 149) (by decide +kernel)), (by decide +kernel)⟩
set_option maxRecDepth 20000 in
theorem qw967 : Cond.instanceMethod yX10_looks ∈ wA := List.mem_filter.mpr ⟨zt4 (List.mem_of_getElem? (i := 150) (by decide +kernel)), (by decide +kernel)⟩
set_option maxRecDepth 20000 in
theorem qw968 : Cond.selects RX10 yX10_looks yX10_looks ∈ wA := List.mem_filter.mpr ⟨zt4 (List.mem_of_getElem? (i := 151) (by decide +kernel)), (by decide +kernel)⟩
set_option maxRecDepth 20000 in
theorem qw969 : Cond.code yX10_looks cX10_looks 2 (some .int) ∈ wA := List.mem_filter.mpr ⟨zt4 (List.mem_of_getElem? (i := 152) (by decide +kernel)), (by decide +kernel)⟩
set_option maxRecDepth 20000 in
theorem qw970 : Cond.methodLink RL 178 yX10_whose ∈ wA := List.mem_filter.mpr ⟨zt4 (List.mem_of_getElem? (i := 153) (by decide +kernel)), (by decide +kernel)⟩
set_option maxRecDepth 20000 in
theorem qw971 : Cond.instanceMethod yX10_whose ∈ wA := List.mem_filter.mpr ⟨zt4 (List.mem_of_getElem? (i := 154) (by decide +kernel)), (by decide +kernel)⟩
set_option maxRecDepth 20000 in
theorem qw972 : Cond.selects RX10 yX10_whose yX10_whose ∈ wA := List.mem_filter.mpr ⟨zt4 (List.mem_of_getElem? (i := 155) (by decide +kernel)), (by decide +kernel)⟩
set_option maxRecDepth 20000 in
theorem qw973 : Cond.code yX10_whose cX10_whose 5 (some .int) ∈ wA := List.mem_filter.mpr ⟨zt4 (List.mem_of_getElem? (i := 156) (by decide +kernel)), (by decide +kernel)⟩
set_option maxRecDepth 20000 in
theorem qw974 : Cond.methodLink RL 182 yX10_heads ∈ wA := List.mem_filter.mpr ⟨zt4 (List.mem_of_getElem? (i := 157) (by decide +kernel)), (by decide +kernel)⟩
set_option maxRecDepth 20000 in
theorem qw975 : Cond.instanceMethod yX10_heads ∈ wA := List.mem_filter.mpr ⟨zt4 (List.mem_of_getElem? (i := 158) (by decide +kernel)), (by decide +kernel)⟩
set_option maxRecDepth 20000 in
theorem qw976 : Cond.selects RX10 yX10_heads yX10_heads ∈ wA := List.mem_filter.mpr ⟨zt4 (List.mem_of_getElem? (i := 159) (by decide +kernel)), (by decide +kernel)⟩
set_option maxRecDepth 20000 in
theorem qw977 : Cond.code yX10_heads cX10_heads 8 (some .int) ∈ wA := List.mem_filter.mpr ⟨zt4 (List.mem_of_getElem? (i := 160) (by decide +kernel)), (by decide +kernel)⟩
set_option maxRecDepth 20000 in
theorem qw980 : Cond.methodLink RL 186 yX10_matched ∈ wA := List.mem_filter.mpr ⟨zt4 (List.mem_of_getElem? (i := 163) (by decide +kernel)), (by decide +kernel)⟩
set_option maxRecDepth 20000 in
theorem qw981 : Cond.instanceMethod yX10_matched ∈ wA := List.mem_filter.mpr ⟨zt4 (List.mem_of_getElem? (i := 164) (by decide +kernel)), (by decide +kernel)⟩
set_option maxRecDepth 20000 in
theorem qw982 : Cond.selects RX10 yX10_matched yX10_matched ∈ wA := List.mem_filter.mpr ⟨zt4 (List.mem_of_getElem? (i := 165) (by decide +kernel)), (by decide +kernel)⟩
set_option maxRecDepth 20000 in
theorem qw983 : Cond.code yX10_matched cX10_matched 4 (some .int) ∈ wA := List.mem_filter.mpr ⟨zt4 (List.mem_of_getElem? (i := 166) (by decide +kernel)), (by decide +kernel)⟩
set_option maxRecDepth 20000 in
theorem qw988 : Cond.methodLink RL 190 yX10_most ∈ wA := List.mem_filter.mpr ⟨zt4 (List.mem_of_getElem? (i := 171) (by decide +kernel)), (by decide +kernel)⟩
set_option maxRecDepth 20000 in
theorem qw989 : Cond.instanceMethod yX10_most ∈ wA := List.mem_filter.mpr ⟨zt4 (List.mem_of_getElem? (i := 172) (by decide +kernel)), (by decide +kernel)⟩
set_option maxRecDepth 20000 in
theorem qw990 : Cond.selects RX10 yX10_most yX10_most ∈ wA := List.mem_filter.mpr ⟨zt4 (List.mem_of_getElem? (i := 173) (by decide +kernel)), (by decide +kernel)⟩
set_option maxRecDepth 20000 in
theorem qw991 : Cond.code yX10_most cX10_most 2 (some .int) ∈ wA := List.mem_filter.mpr ⟨zt4 (List.mem_of_getElem? (i := 174) (by decide +kernel)), (by decide +kernel)⟩
set_option maxRecDepth 20000 in
theorem qw1013 : Cond.methodLink RL 194 yX10_seen ∈ wA := List.mem_filter.mpr ⟨zt4 (List.mem_of_getElem? (i := 196) (by decide +kernel)), (by decide +kernel)⟩
set_option maxRecDepth 20000 in
theorem qw1014 : Cond.instanceMethod yX10_seen ∈ wA := List.mem_filter.mpr ⟨zt4 (List.mem_of_getElem? (i := 197) (by decide +kernel)), (by decide +kernel)⟩
set_option maxRecDepth 20000 in
theorem qw1015 : Cond.selects RX10 yX10_seen yX10_seen ∈ wA := List.mem_filter.mpr ⟨zt4 (List.mem_of_getElem? (i := 198) (by decide +kernel)), (by decide +kernel)⟩
set_option maxRecDepth 20000 in
theorem qw1016 : Cond.code yX10_seen cX10_seen 2 (some .int) ∈ wA := List.mem_filter.mpr ⟨zt4 (List.mem_of_getElem? (i := 199) (by decide +kernel)), (by decide +kernel)⟩
set_option maxRecDepth 20000 in
theorem qw1017 : Cond.methodLink RL 198 yX10_saves ∈ wA := List.mem_filter.mpr ⟨zt4 (List.mem_of_getElem? (i := 200) (by decide +kernel)), (by decide +kernel)⟩
set_option maxRecDepth 20000 in
theorem qw1018 : Cond.instanceMethod yX10_saves ∈ wA := List.mem_filter.mpr ⟨zt4 (List.mem_of_getElem? (i := 201) (by decide +kernel)), (by decide +kernel)⟩
set_option maxRecDepth 20000 in
theorem qw1019 : Cond.selects RX10 yX10_saves yX10_saves ∈ wA := List.mem_filter.mpr ⟨zt4 (List.mem_of_getElem? (i := 202) (by decide +kernel)), (by decide +kernel)⟩
set_option maxRecDepth 20000 in
theorem qw1020 : Cond.code yX10_saves cX10_saves 2 (some .int) ∈ wA := List.mem_filter.mpr ⟨zt4 (List.mem_of_getElem? (i := 203) (by decide +kernel)), (by decide +kernel)⟩
set_option maxRecDepth 20000 in
theorem qw1022 : Cond.methodLink RL 202 yX10_rivals ∈ wA := List.mem_filter.mpr ⟨zt4 (List.mem_of_getElem? (i := 205) (by decide +kernel)), (by decide +kernel)⟩
set_option maxRecDepth 20000 in
theorem qw1023 : Cond.instanceMethod yX10_rivals ∈ wA := List.mem_filter.mpr ⟨zt4 (List.mem_of_getElem? (i := 206) (by decide +kernel)), (by decide +kernel)⟩
set_option maxRecDepth 20000 in
theorem qw1024 : Cond.selects RX10 yX10_rivals yX10_rivals ∈ wA := List.mem_filter.mpr ⟨zt4 (List.mem_of_getElem? (i := 207) (by decide +kernel)), (by decide +kernel)⟩
set_option maxRecDepth 20000 in
theorem qw1025 : Cond.code yX10_rivals cX10_rivals 4 (some .int) ∈ wA := List.mem_filter.mpr ⟨zt4 (List.mem_of_getElem? (i := 208) (by decide +kernel)), (by decide +kernel)⟩
set_option maxRecDepth 20000 in
theorem qw1026 : Cond.methodLink RL 206 yX10_affords ∈ wA := List.mem_filter.mpr ⟨zt4 (List.mem_of_getElem? (i := 209) (by decide +kernel)), (by decide +kernel)⟩
set_option maxRecDepth 20000 in
theorem qw1027 : Cond.instanceMethod yX10_affords ∈ wA := List.mem_filter.mpr ⟨zt4 (List.mem_of_getElem? (i := 210) (by decide +kernel)), (by decide +kernel)⟩
set_option maxRecDepth 20000 in
theorem qw1028 : Cond.selects RX10 yX10_affords yX10_affords ∈ wA := List.mem_filter.mpr ⟨zt4 (List.mem_of_getElem? (i := 211) (by decide +kernel)), (by decide +kernel)⟩
set_option maxRecDepth 20000 in
theorem qw1029 : Cond.code yX10_affords cX10_affords 4 (some .int) ∈ wA := List.mem_filter.mpr ⟨zt4 (List.mem_of_getElem? (i := 212) (by decide +kernel)), (by decide +kernel)⟩
set_option maxRecDepth 20000 in
theorem qw1030 : Cond.methodLink RL 210 yX10_told ∈ wA := List.mem_filter.mpr ⟨zt4 (List.mem_of_getElem? (i := 213) (by decide +kernel)), (by decide +kernel)⟩
set_option maxRecDepth 20000 in
theorem qw1031 : Cond.instanceMethod yX10_told ∈ wA := List.mem_filter.mpr ⟨zt4 (List.mem_of_getElem? (i := 214) (by decide +kernel)), (by decide +kernel)⟩
set_option maxRecDepth 20000 in
theorem qw1032 : Cond.selects RX10 yX10_told yX10_told ∈ wA := List.mem_filter.mpr ⟨zt4 (List.mem_of_getElem? (i := 215) (by decide +kernel)), (by decide +kernel)⟩
set_option maxRecDepth 20000 in
theorem qw1033 : Cond.code yX10_told cX10_told 4 (some .int) ∈ wA := List.mem_filter.mpr ⟨zt4 (List.mem_of_getElem? (i := 216) (by decide +kernel)), (by decide +kernel)⟩
set_option maxRecDepth 20000 in
theorem qw1035 : Cond.methodLink RL 214 yX10_image ∈ wA := List.mem_filter.mpr ⟨zt4 (List.mem_of_getElem? (i := 218) (by decide +kernel)), (by decide +kernel)⟩
set_option maxRecDepth 20000 in
theorem qw1036 : Cond.instanceMethod yX10_image ∈ wA := List.mem_filter.mpr ⟨zt4 (List.mem_of_getElem? (i := 219) (by decide +kernel)), (by decide +kernel)⟩
set_option maxRecDepth 20000 in
theorem qw1037 : Cond.selects RX10 yX10_image yX10_image ∈ wA := List.mem_filter.mpr ⟨zt4 (List.mem_of_getElem? (i := 220) (by decide +kernel)), (by decide +kernel)⟩
set_option maxRecDepth 20000 in
theorem qw1038 : Cond.code yX10_image cX10_image 1 (some .int) ∈ wA := List.mem_filter.mpr ⟨zt4 (List.mem_of_getElem? (i := 221) (by decide +kernel)), (by decide +kernel)⟩
set_option maxRecDepth 20000 in
theorem qw1043 : Cond.methodLink RL 218 yX10_back ∈ wA := List.mem_filter.mpr ⟨zt4 (List.mem_of_getElem? (i := 226) (by decide +kernel)), (by decide +kernel)⟩
set_option maxRecDepth 20000 in
theorem qw1044 : Cond.instanceMethod yX10_back ∈ wA := List.mem_filter.mpr ⟨zt4 (List.mem_of_getElem? (i := 227) (by decide +kernel)), (by decide +kernel)⟩
set_option maxRecDepth 20000 in
theorem qw1045 : Cond.selects RX10 yX10_back yX10_back ∈ wA := List.mem_filter.mpr ⟨zt4 (List.mem_of_getElem? (i := 228) (by decide +kernel)), (by decide +kernel)⟩
set_option maxRecDepth 20000 in
theorem qw1046 : Cond.code yX10_back cX10_back 1 (some .int) ∈ wA := List.mem_filter.mpr ⟨zt4 (List.mem_of_getElem? (i := 229) (by decide +kernel)), (by decide +kernel)⟩
set_option maxRecDepth 20000 in
theorem qw1047 : Cond.methodLink RL 222 yX10_count ∈ wA := List.mem_filter.mpr ⟨zt4 (List.mem_of_getElem? (i := 230) (by decide +kernel)), (by decide +kernel)⟩
set_option maxRecDepth 20000 in
theorem qw1048 : Cond.instanceMethod yX10_count ∈ wA := List.mem_filter.mpr ⟨zt4 (List.mem_of_getElem? (i := 231) (by decide +kernel)), (by decide +kernel)⟩
set_option maxRecDepth 20000 in
theorem qw1049 : Cond.selects RX10 yX10_count yX10_count ∈ wA := List.mem_filter.mpr ⟨zt4 (List.mem_of_getElem? (i := 232) (by decide +kernel)), (by decide +kernel)⟩
set_option maxRecDepth 20000 in
theorem qw1050 : Cond.code yX10_count cX10_count 2 (some .int) ∈ wA := List.mem_filter.mpr ⟨zt4 (List.mem_of_getElem? (i := 233) (by decide +kernel)), (by decide +kernel)⟩
set_option maxRecDepth 20000 in
theorem qw1051 : Cond.methodLink RL 42 yL_bride ∈ wA := List.mem_filter.mpr ⟨zt4 (List.mem_of_getElem? (i := 234) (by decide +kernel)), (by decide +kernel)⟩
set_option maxRecDepth 20000 in
theorem qw1052 : Cond.static yL_bride ∈ wA := List.mem_filter.mpr ⟨zt4 (List.mem_of_getElem? (i := 235) (by decide +kernel)), (by decide +kernel)⟩
set_option maxRecDepth 20000 in
theorem qw1053 : Cond.codeWith yL_bride cL_bride 5 (some .int) [(0, 10, 13, 13)] ∈ wA := List.mem_filter.mpr ⟨zt4 (List.mem_of_getElem? (i := 236) (by decide +kernel)), (by decide +kernel)⟩
set_option maxRecDepth 20000 in
theorem qw1054 : Cond.classLink RL 13 "java/util/NoSuchElementException" ∈ wA := List.mem_filter.mpr ⟨zt4 (List.mem_of_getElem? (i := 237) (by decide +kernel)), (by decide +kernel)⟩
set_option maxRecDepth 20000 in
theorem qw1055 : Cond.methodLink RL 7 yX10_bride ∈ wA := List.mem_filter.mpr ⟨zt4 (List.mem_of_getElem? (i := 238) (by decide +kernel)), (by decide +kernel)⟩
set_option maxRecDepth 20000 in
theorem qw1056 : Cond.instanceMethod yX10_bride ∈ wA := List.mem_filter.mpr ⟨zt4 (List.mem_of_getElem? (i := 239) (by decide +kernel)), (by decide +kernel)⟩
set_option maxRecDepth 20000 in
theorem qw1057 : Cond.selects RX10 yX10_bride yX10_bride ∈ wA := List.mem_filter.mpr ⟨zt5 (List.mem_of_getElem? (i := 0) (by decide +kernel)), (by decide +kernel)⟩
set_option maxRecDepth 20000 in
theorem qw1058 : Cond.code yX10_bride cX10_bride 3 (some .int) ∈ wA := List.mem_filter.mpr ⟨zt5 (List.mem_of_getElem? (i := 1) (by decide +kernel)), (by decide +kernel)⟩
set_option maxRecDepth 20000 in
theorem qw1059 : Cond.classLink RX10 158 "java/util/NoSuchElementException" ∈ wA := List.mem_filter.mpr ⟨zt5 (List.mem_of_getElem? (i := 2) (by decide +kernel)), (by decide +kernel)⟩
set_option maxRecDepth 20000 in
theorem qw1121 : Cond.classLink RL 16 RX11 ∈ wA := List.mem_filter.mpr ⟨zt5 (List.mem_of_getElem? (i := 64) (by decide +kernel)), (by decide +kernel)⟩
set_option maxRecDepth 20000 in
theorem qw1122 : Cond.instantiable RX11 41 ∈ wA := List.mem_filter.mpr ⟨zt5 (List.mem_of_getElem? (i := 65) (by decide +kernel)), (by decide +kernel)⟩
set_option maxRecDepth 20000 in
theorem qw1123 : Cond.methodLink RL 18 yX11_init ∈ wA := List.mem_filter.mpr ⟨zt5 (List.mem_of_getElem? (i := 66) (by decide +kernel)), (by decide +kernel)⟩
set_option maxRecDepth 20000 in
theorem qw1124 : Cond.instanceMethod yX11_init ∈ wA := List.mem_filter.mpr ⟨zt5 (List.mem_of_getElem? (i := 67) (by decide +kernel)), (by decide +kernel)⟩
set_option maxRecDepth 20000 in
theorem qw1125 : Cond.code yX11_init cX11_init 1 none ∈ wA := List.mem_filter.mpr ⟨zt5 (List.mem_of_getElem? (i := 68) (by decide +kernel)), (by decide +kernel)⟩
set_option maxRecDepth 20000 in
theorem qw1126 : Cond.methodLink RX11 3 objectInit ∈ wA := List.mem_filter.mpr ⟨zt5 (List.mem_of_getElem? (i := 69) (by decide +kernel)), (by decide +kernel)⟩
set_option maxRecDepth 20000 in
theorem qw1127 : Cond.fieldLink RX11 83 "NinePortraitsModel" "thrown" "I" ∈ wA := List.mem_filter.mpr ⟨zt5 (List.mem_of_getElem? (i := 70) (by decide +kernel)), (by decide +kernel)⟩
set_option maxRecDepth 20000 in
theorem qw1128 : Cond.fieldLink RX11 9 "NinePortraitsModel" "tape" "[I" ∈ wA := List.mem_filter.mpr ⟨zt5 (List.mem_of_getElem? (i := 71) (by decide +kernel)), (by decide +kernel)⟩
set_option maxRecDepth 20000 in
theorem qw1129 : Cond.fieldLink RX11 90 "NinePortraitsModel" "size" "I" ∈ wA := List.mem_filter.mpr ⟨zt5 (List.mem_of_getElem? (i := 72) (by decide +kernel)), (by decide +kernel)⟩
set_option maxRecDepth 20000 in
theorem qw1130 : Cond.fieldLink RX11 93 "NinePortraitsModel" "at" "I" ∈ wA := List.mem_filter.mpr ⟨zt5 (List.mem_of_getElem? (i := 73) (by decide +kernel)), (by decide +kernel)⟩
set_option maxRecDepth 20000 in
theorem qw1131 : Cond.fieldLink RX11 100 "NinePortraitsModel" "wrong" "I" ∈ wA := List.mem_filter.mpr ⟨zt5 (List.mem_of_getElem? (i := 74) (by decide +kernel)), (by decide +kernel)⟩
set_option maxRecDepth 20000 in
theorem qw1132 : Cond.fieldLink RX11 106 "NinePortraitsModel" "deep" "I" ∈ wA := List.mem_filter.mpr ⟨zt5 (List.mem_of_getElem? (i := 75) (by decide +kernel)), (by decide +kernel)⟩
set_option maxRecDepth 20000 in
theorem qw1133 : Cond.fieldLink RX11 13 "NinePortraitsModel" "code" "[I" ∈ wA := List.mem_filter.mpr ⟨zt5 (List.mem_of_getElem? (i := 76) (by decide +kernel)), (by decide +kernel)⟩
set_option maxRecDepth 20000 in
theorem qw1134 : Cond.fieldLink RX11 16 "NinePortraitsModel" "value" "[I" ∈ wA := List.mem_filter.mpr ⟨zt5 (List.mem_of_getElem? (i := 77) (by decide +kernel)), (by decide +kernel)⟩
set_option maxRecDepth 20000 in
theorem qw1135 : Cond.fieldLink RX11 19 "NinePortraitsModel" "codes" "[I" ∈ wA := List.mem_filter.mpr ⟨zt5 (List.mem_of_getElem? (i := 78) (by decide +kernel)), (by decide +kernel)⟩
set_option maxRecDepth 20000 in
theorem qw1136 : Cond.fieldLink RX11 22 "NinePortraitsModel" "clauses" "[I" ∈ wA := List.mem_filter.mpr ⟨zt5 (List.mem_of_getElem? (i := 79) (by decide +kernel)), (by decide +kernel)⟩
set_option maxRecDepth 20000 in
theorem qw1137 : Cond.fieldLink RX11 25 "NinePortraitsModel" "testFrom" "[I" ∈ wA := List.mem_filter.mpr ⟨zt5 (List.mem_of_getElem? (i := 80) (by decide +kernel)), (by decide +kernel)⟩
set_option maxRecDepth 20000 in
theorem qw1138 : Cond.fieldLink RX11 28 "NinePortraitsModel" "sumFrom" "[I" ∈ wA := List.mem_filter.mpr ⟨zt5 (List.mem_of_getElem? (i := 81) (by decide +kernel)), (by decide +kernel)⟩
set_option maxRecDepth 20000 in
theorem qw1139 : Cond.fieldLink RX11 31 "NinePortraitsModel" "sumTo" "[I" ∈ wA := List.mem_filter.mpr ⟨zt5 (List.mem_of_getElem? (i := 82) (by decide +kernel)), (by decide +kernel)⟩
set_option maxRecDepth 20000 in
theorem qw1140 : Cond.fieldLink RX11 257 "NinePortraitsModel" "laws" "I" ∈ wA := List.mem_filter.mpr ⟨zt5 (List.mem_of_getElem? (i := 83) (by decide +kernel)), (by decide +kernel)⟩
set_option maxRecDepth 20000 in
theorem qw1141 : Cond.fieldLink RX11 103 "NinePortraitsModel" "text" "I" ∈ wA := List.mem_filter.mpr ⟨zt5 (List.mem_of_getElem? (i := 84) (by decide +kernel)), (by decide +kernel)⟩
set_option maxRecDepth 20000 in
theorem qw1142 : Cond.fieldLink RX11 34 "NinePortraitsModel" "letters" "[I" ∈ wA := List.mem_filter.mpr ⟨zt5 (List.mem_of_getElem? (i := 85) (by decide +kernel)), (by decide +kernel)⟩
set_option maxRecDepth 20000 in
theorem qw1143 : Cond.fieldLink RX11 37 "NinePortraitsModel" "stack" "[I" ∈ wA := List.mem_filter.mpr ⟨zt5 (List.mem_of_getElem? (i := 86) (by decide +kernel)), (by decide +kernel)⟩
set_option maxRecDepth 20000 in
theorem qw1144 : Cond.fieldLink RX11 40 "NinePortraitsModel" "readRule" "[I" ∈ wA := List.mem_filter.mpr ⟨zt5 (List.mem_of_getElem? (i := 87) (by decide +kernel)), (by decide +kernel)⟩
set_option maxRecDepth 20000 in
theorem qw1145 : Cond.fieldLink RX11 43 "NinePortraitsModel" "readBride" "[I" ∈ wA := List.mem_filter.mpr ⟨zt5 (List.mem_of_getElem? (i := 88) (by decide +kernel)), (by decide +kernel)⟩
set_option maxRecDepth 20000 in
theorem qw1146 : Cond.fieldLink RX11 46 "NinePortraitsModel" "readPainter" "[I" ∈ wA := List.mem_filter.mpr ⟨zt5 (List.mem_of_getElem? (i := 89) (by decide +kernel)), (by decide +kernel)⟩
set_option maxRecDepth 20000 in
theorem qw1147 : Cond.fieldLink RX11 219 "NinePortraitsModel" "readBrides" "I" ∈ wA := List.mem_filter.mpr ⟨zt5 (List.mem_of_getElem? (i := 90) (by decide +kernel)), (by decide +kernel)⟩
set_option maxRecDepth 20000 in
theorem qw1148 : Cond.fieldLink RX11 222 "NinePortraitsModel" "readPainters" "I" ∈ wA := List.mem_filter.mpr ⟨zt5 (List.mem_of_getElem? (i := 91) (by decide +kernel)), (by decide +kernel)⟩
set_option maxRecDepth 20000 in
theorem qw1149 : Cond.fieldLink RX11 49 "NinePortraitsModel" "rule" "[I" ∈ wA := List.mem_filter.mpr ⟨zt5 (List.mem_of_getElem? (i := 92) (by decide +kernel)), (by decide +kernel)⟩
set_option maxRecDepth 20000 in
theorem qw1150 : Cond.fieldLink RX11 52 "NinePortraitsModel" "bride" "[I" ∈ wA := List.mem_filter.mpr ⟨zt5 (List.mem_of_getElem? (i := 93) (by decide +kernel)), (by decide +kernel)⟩
set_option maxRecDepth 20000 in
theorem qw1151 : Cond.fieldLink RX11 55 "NinePortraitsModel" "painter" "[I" ∈ wA := List.mem_filter.mpr ⟨zt5 (List.mem_of_getElem? (i := 94) (by decide +kernel)), (by decide +kernel)⟩
set_option maxRecDepth 20000 in
theorem qw1152 : Cond.fieldLink RX11 235 "NinePortraitsModel" "brides" "I" ∈ wA := List.mem_filter.mpr ⟨zt5 (List.mem_of_getElem? (i := 95) (by decide +kernel)), (by decide +kernel)⟩
set_option maxRecDepth 20000 in
theorem qw1153 : Cond.fieldLink RX11 238 "NinePortraitsModel" "painters" "I" ∈ wA := List.mem_filter.mpr ⟨zt5 (List.mem_of_getElem? (i := 96) (by decide +kernel)), (by decide +kernel)⟩
set_option maxRecDepth 20000 in
theorem qw1154 : Cond.fieldLink RX11 58 "NinePortraitsModel" "now" "[I" ∈ wA := List.mem_filter.mpr ⟨zt5 (List.mem_of_getElem? (i := 97) (by decide +kernel)), (by decide +kernel)⟩
set_option maxRecDepth 20000 in
theorem qw1155 : Cond.fieldLink RX11 61 "NinePortraitsModel" "refused" "[I" ∈ wA := List.mem_filter.mpr ⟨zt5 (List.mem_of_getElem? (i := 98) (by decide +kernel)), (by decide +kernel)⟩
set_option maxRecDepth 20000 in
theorem qw1156 : Cond.fieldLink RX11 64 "NinePortraitsModel" "holding" "I" ∈ wA := List.mem_filter.mpr ⟨zt5 (List.mem_of_getElem? (i := 99) (by decide +kernel)), (by decide +kernel)⟩
set_option maxRecDepth 20000 in
theorem qw1157 : Cond.fieldLink RX11 319 "NinePortraitsModel" "bribes" "I" ∈ wA := List.mem_filter.mpr ⟨zt5 (List.mem_of_getElem? (i := 100) (by decide +kernel)), (by decide +kernel)⟩
set_option maxRecDepth 20000 in
theorem qw1158 : Cond.fieldLink RX11 68 "NinePortraitsModel" "kept" "[I" ∈ wA := List.mem_filter.mpr ⟨zt5 (List.mem_of_getElem? (i := 101) (by decide +kernel)), (by decide +kernel)⟩
set_option maxRecDepth 20000 in
theorem qw1159 : Cond.fieldLink RX11 247 "NinePortraitsModel" "acts" "I" ∈ wA := List.mem_filter.mpr ⟨zt5 (List.mem_of_getElem? (i := 102) (by decide +kernel)), (by decide +kernel)⟩
set_option maxRecDepth 20000 in
theorem qw1161 : Cond.fieldLink RX11 71 "NinePortraitsModel" "beliefs" "[I" ∈ wA := List.mem_filter.mpr ⟨zt5 (List.mem_of_getElem? (i := 104) (by decide +kernel)), (by decide +kernel)⟩
set_option maxRecDepth 20000 in
theorem qw1164 : Cond.fieldLink RX11 74 "NinePortraitsModel" "askedBy" "[I" ∈ wA := List.mem_filter.mpr ⟨zt5 (List.mem_of_getElem? (i := 107) (by decide +kernel)), (by decide +kernel)⟩
set_option maxRecDepth 20000 in
theorem qw1165 : Cond.fieldLink RX11 77 "NinePortraitsModel" "holdsOne" "[I" ∈ wA := List.mem_filter.mpr ⟨zt5 (List.mem_of_getElem? (i := 108) (by decide +kernel)), (by decide +kernel)⟩
set_option maxRecDepth 20000 in
theorem qw1166 : Cond.fieldLink RX11 80 "NinePortraitsModel" "image" "[I" ∈ wA := List.mem_filter.mpr ⟨zt5 (List.mem_of_getElem? (i := 109) (by decide +kernel)), (by decide +kernel)⟩
set_option maxRecDepth 20000 in
theorem qw1167 : Cond.fieldLink RX11 250 "NinePortraitsModel" "hasImage" "Z" ∈ wA := List.mem_filter.mpr ⟨zt5 (List.mem_of_getElem? (i := 110) (by decide +kernel)), (by decide +kernel)⟩
set_option maxRecDepth 20000 in
theorem qw1251 : Cond.methodLink RL 48 yX11_thrown ∈ wA := List.mem_filter.mpr ⟨zt5 (List.mem_of_getElem? (i := 194) (by decide +kernel)), (by decide +kernel)⟩
set_option maxRecDepth 20000 in
theorem qw1252 : Cond.instanceMethod yX11_thrown ∈ wA := List.mem_filter.mpr ⟨zt5 (List.mem_of_getElem? (i := 195) (by decide +kernel)), (by decide +kernel)⟩
set_option maxRecDepth 20000 in
theorem qw1253 : Cond.selects RX11 yX11_thrown yX11_thrown ∈ wA := List.mem_filter.mpr ⟨zt5 (List.mem_of_getElem? (i := 196) (by decide +kernel)), (by decide +kernel)⟩
set_option maxRecDepth 20000 in
theorem qw1254 : Cond.code yX11_thrown cX11_thrown 1 (some .int) ∈ wA := List.mem_filter.mpr ⟨zt5 (List.mem_of_getElem? (i := 197) (by decide +kernel)), (by decide +kernel)⟩
set_option maxRecDepth 20000 in
theorem qw1255 : Cond.methodLink RL 23 yX11_feed ∈ wA := List.mem_filter.mpr ⟨zt5 (List.mem_of_getElem? (i := 198) (by decide +kernel)), (by decide +kernel)⟩
set_option maxRecDepth 20000 in
theorem qw1256 : Cond.instanceMethod yX11_feed ∈ wA := List.mem_filter.mpr ⟨zt5 (List.mem_of_getElem? (i := 199) (by decide +kernel)), (by decide +kernel)⟩
set_option maxRecDepth 20000 in
theorem qw1257 : Cond.selects RX11 yX11_feed yX11_feed ∈ wA := List.mem_filter.mpr ⟨zt5 (List.mem_of_getElem? (i := 200) (by decide +kernel)), (by decide +kernel)⟩
set_option maxRecDepth 20000 in
theorem qw1258 : Cond.code yX11_feed cX11_feed 9 (some .int) ∈ wA := List.mem_filter.mpr ⟨zt5 (List.mem_of_getElem? (i := 201) (by decide +kernel)), (by decide +kernel)⟩
set_option maxRecDepth 20000 in
theorem qw1259 : Cond.methodLink RX11 86 yX11_byteOf ∈ wA := List.mem_filter.mpr ⟨zt5 (List.mem_of_getElem? (i := 202) (by decide +kernel)), (by decide +kernel)⟩
set_option maxRecDepth 20000 in
theorem qw1260 : Cond.static yX11_byteOf ∈ wA := List.mem_filter.mpr ⟨zt5 (List.mem_of_getElem? (i := 203) (by decide +kernel)), (by decide +kernel)⟩
set_option maxRecDepth 20000 in
theorem qw1261 : Cond.code yX11_byteOf cX11_byteOf 7 (some .int) ∈ wA := List.mem_filter.mpr ⟨zt5 (List.mem_of_getElem? (i := 204) (by decide +kernel)), (by decide +kernel)⟩
set_option maxRecDepth 20000 in
theorem qw1262 : Cond.methodLink RL 28 yX11_end ∈ wA := List.mem_filter.mpr ⟨zt5 (List.mem_of_getElem? (i := 205) (by decide +kernel)), (by decide +kernel)⟩
set_option maxRecDepth 20000 in
theorem qw1263 : Cond.instanceMethod yX11_end ∈ wA := List.mem_filter.mpr ⟨zt5 (List.mem_of_getElem? (i := 206) (by decide +kernel)), (by decide +kernel)⟩
set_option maxRecDepth 20000 in
theorem qw1264 : Cond.selects RX11 yX11_end yX11_end ∈ wA := List.mem_filter.mpr ⟨zt5 (List.mem_of_getElem? (i := 207) (by decide +kernel)), (by decide +kernel)⟩
set_option maxRecDepth 20000 in
theorem qw1265 : Cond.code yX11_end cX11_end 2 (some .boolean) ∈ wA := List.mem_filter.mpr ⟨zt5 (List.mem_of_getElem? (i := 208) (by decide +kernel)), (by decide +kernel)⟩
set_option maxRecDepth 20000 in
theorem qw1266 : Cond.methodLink RL 33 yX11_fault ∈ wA := List.mem_filter.mpr ⟨zt5 (List.mem_of_getElem? (i := 209) (by decide +kernel)), (by decide +kernel)⟩
set_option maxRecDepth 20000 in
theorem qw1267 : Cond.instanceMethod yX11_fault ∈ wA := List.mem_filter.mpr ⟨zt5 (List.mem_of_getElem? (i := 210) (by decide +kernel)), (by decide +kernel)⟩
set_option maxRecDepth 20000 in
theorem qw1268 : Cond.selects RX11 yX11_fault yX11_fault ∈ wA := List.mem_filter.mpr ⟨zt5 (List.mem_of_getElem? (i := 211) (by decide +kernel)), (by decide +kernel)⟩
set_option maxRecDepth 20000 in
theorem qw1269 : Cond.code yX11_fault cX11_fault 2 (some .int) ∈ wA := List.mem_filter.mpr ⟨zt5 (List.mem_of_getElem? (i := 212) (by decide +kernel)), (by decide +kernel)⟩
set_option maxRecDepth 20000 in
theorem qw1270 : Cond.methodLink RX11 229 yX11_readCourt ∈ wA := List.mem_filter.mpr ⟨zt5 (List.mem_of_getElem? (i := 213) (by decide +kernel)), (by decide +kernel)⟩
set_option maxRecDepth 20000 in
theorem qw1272 : Cond.instanceMethod yX11_readCourt ∈ wA := List.mem_filter.mpr ⟨zt5 (List.mem_of_getElem? (i := 215) (by decide +kernel)), (by decide +kernel)⟩
set_option maxRecDepth 20000 in
theorem qw1273 : Cond.code yX11_readCourt cX11_readCourt 4 (some .int) ∈ wA := List.mem_filter.mpr ⟨zt5 (List.mem_of_getElem? (i := 216) (by decide +kernel)), (by decide +kernel)⟩
set_option maxRecDepth 20000 in
theorem qw1274 : Cond.methodLink RX11 202 yX11_usual ∈ wA := List.mem_filter.mpr ⟨zt5 (List.mem_of_getElem? (i := 217) (by decide +kernel)), (by decide +kernel)⟩
set_option maxRecDepth 20000 in
theorem qw1275 : Cond.static yX11_usual ∈ wA := List.mem_filter.mpr ⟨zt5 (List.mem_of_getElem? (i := 218) (by decide +kernel)), (by decide +kernel)⟩
set_option maxRecDepth 20000 in
theorem qw1276 : Cond.code yX11_usual cX11_usual 2 (some .int) ∈ wA := List.mem_filter.mpr ⟨zt5 (List.mem_of_getElem? (i := 219) (by decide +kernel)), (by decide +kernel)⟩
set_option maxRecDepth 20000 in
theorem qw1277 : Cond.methodLink RX11 112 yX11_look ∈ wA := List.mem_filter.mpr ⟨zt5 (List.mem_of_getElem? (i := 220) (by decide +kernel)), (by decide +kernel)⟩
set_option maxRecDepth 20000 in
theorem qw1279 : Cond.instanceMethod yX11_look ∈ wA := List.mem_filter.mpr ⟨zt5 (List.mem_of_getElem? (i := 222) (by decide +kernel)), (by decide +kernel)⟩
set_option maxRecDepth 20000 in
theorem qw1280 : Cond.code yX11_look cX11_look 1 (some .int) ∈ wA := List.mem_filter.mpr ⟨zt5 (List.mem_of_getElem? (i := 223) (by decide +kernel)), (by decide +kernel)⟩
set_option maxRecDepth 20000 in
theorem qw1281 : Cond.methodLink RX11 96 yX11_here ∈ wA := List.mem_filter.mpr ⟨zt5 (List.mem_of_getElem? (i := 224) (by decide +kernel)), (by decide +kernel)⟩
set_option maxRecDepth 20000 in
theorem qw1283 : Cond.instanceMethod yX11_here ∈ wA := List.mem_filter.mpr ⟨zt5 (List.mem_of_getElem? (i := 226) (by decide +kernel)), (by decide +kernel)⟩
set_option maxRecDepth 20000 in
theorem qw1284 : Cond.code yX11_here cX11_here 1 (some .int) ∈ wA := List.mem_filter.mpr ⟨zt5 (List.mem_of_getElem? (i := 227) (by decide +kernel)), (by decide +kernel)⟩
set_option maxRecDepth 20000 in
theorem qw1305 : Cond.methodLink RX11 109 yX11_bad ∈ wA := List.mem_filter.mpr ⟨zt6 (List.mem_of_getElem? (i := 8) (by decide +kernel)), (by decide +kernel)⟩
set_option maxRecDepth 20000 in
theorem qw1307 : Cond.instanceMethod yX11_bad ∈ wA := List.mem_filter.mpr ⟨zt6 (List.mem_of_getElem? (i := 10) (by decide +kernel)), (by decide +kernel)⟩
set_option maxRecDepth 20000 in
theorem qw1308 : Cond.code yX11_bad cX11_bad 1 none ∈ wA := List.mem_filter.mpr ⟨zt6 (List.mem_of_getElem? (i := 11) (by decide +kernel)), (by decide +kernel)⟩
set_option maxRecDepth 20000 in
theorem qw1309 : Cond.methodLink RX11 198 yX11_in ∈ wA := List.mem_filter.mpr ⟨zt6 (List.mem_of_getElem? (i := 12) (by decide +kernel)), (by decide +kernel)⟩
set_option maxRecDepth 20000 in
theorem qw1310 : Cond.static yX11_in ∈ wA := List.mem_filter.mpr ⟨zt6 (List.mem_of_getElem? (i := 13) (by decide +kernel)), (by decide +kernel)⟩
set_option maxRecDepth 20000 in
theorem qw1311 : Cond.code yX11_in cX11_in 3 (some .boolean) ∈ wA := List.mem_filter.mpr ⟨zt6 (List.mem_of_getElem? (i := 14) (by decide +kernel)), (by decide +kernel)⟩
set_option maxRecDepth 20000 in
theorem qw1312 : Cond.methodLink RX11 232 yX11_readLaw ∈ wA := List.mem_filter.mpr ⟨zt6 (List.mem_of_getElem? (i := 15) (by decide +kernel)), (by decide +kernel)⟩
set_option maxRecDepth 20000 in
theorem qw1314 : Cond.instanceMethod yX11_readLaw ∈ wA := List.mem_filter.mpr ⟨zt6 (List.mem_of_getElem? (i := 17) (by decide +kernel)), (by decide +kernel)⟩
set_option maxRecDepth 20000 in
theorem qw1315 : Cond.code yX11_readLaw cX11_readLaw 2 (some .int) ∈ wA := List.mem_filter.mpr ⟨zt6 (List.mem_of_getElem? (i := 18) (by decide +kernel)), (by decide +kernel)⟩
set_option maxRecDepth 20000 in
theorem qw1316 : Cond.methodLink RX11 164 yX11_open ∈ wA := List.mem_filter.mpr ⟨zt6 (List.mem_of_getElem? (i := 19) (by decide +kernel)), (by decide +kernel)⟩
set_option maxRecDepth 20000 in
theorem qw1318 : Cond.instanceMethod yX11_open ∈ wA := List.mem_filter.mpr ⟨zt6 (List.mem_of_getElem? (i := 21) (by decide +kernel)), (by decide +kernel)⟩
set_option maxRecDepth 20000 in
theorem qw1319 : Cond.code yX11_open cX11_open 2 none ∈ wA := List.mem_filter.mpr ⟨zt6 (List.mem_of_getElem? (i := 22) (by decide +kernel)), (by decide +kernel)⟩
set_option maxRecDepth 20000 in
theorem qw1320 : Cond.methodLink RX11 167 yX11_clause ∈ wA := List.mem_filter.mpr ⟨zt6 (List.mem_of_getElem? (i := 23) (by decide +kernel)), (by decide +kernel)⟩
set_option maxRecDepth 20000 in
theorem qw1322 : Cond.instanceMethod yX11_clause ∈ wA := List.mem_filter.mpr ⟨zt6 (List.mem_of_getElem? (i := 25) (by decide +kernel)), (by decide +kernel)⟩
set_option maxRecDepth 20000 in
theorem qw1323 : Cond.code yX11_clause cX11_clause 3 none ∈ wA := List.mem_filter.mpr ⟨zt6 (List.mem_of_getElem? (i := 26) (by decide +kernel)), (by decide +kernel)⟩
set_option maxRecDepth 20000 in
theorem qw1378 : Cond.methodLink RX11 170 yX11_atEnd ∈ wA := List.mem_filter.mpr ⟨zt6 (List.mem_of_getElem? (i := 81) (by decide +kernel)), (by decide +kernel)⟩
set_option maxRecDepth 20000 in
theorem qw1380 : Cond.instanceMethod yX11_atEnd ∈ wA := List.mem_filter.mpr ⟨zt6 (List.mem_of_getElem? (i := 83) (by decide +kernel)), (by decide +kernel)⟩
set_option maxRecDepth 20000 in
theorem qw1381 : Cond.code yX11_atEnd cX11_atEnd 1 (some .int) ∈ wA := List.mem_filter.mpr ⟨zt6 (List.mem_of_getElem? (i := 84) (by decide +kernel)), (by decide +kernel)⟩
set_option maxRecDepth 20000 in
theorem qw1382 : Cond.methodLink RL 37 yX11_text ∈ wA := List.mem_filter.mpr ⟨zt6 (List.mem_of_getElem? (i := 85) (by decide +kernel)), (by decide +kernel)⟩
set_option maxRecDepth 20000 in
theorem qw1383 : Cond.instanceMethod yX11_text ∈ wA := List.mem_filter.mpr ⟨zt6 (List.mem_of_getElem? (i := 86) (by decide +kernel)), (by decide +kernel)⟩
set_option maxRecDepth 20000 in
theorem qw1384 : Cond.selects RX11 yX11_text yX11_text ∈ wA := List.mem_filter.mpr ⟨zt6 (List.mem_of_getElem? (i := 87) (by decide +kernel)), (by decide +kernel)⟩
set_option maxRecDepth 20000 in
theorem qw1385 : Cond.code yX11_text cX11_text 2 (some .int) ∈ wA := List.mem_filter.mpr ⟨zt6 (List.mem_of_getElem? (i := 88) (by decide +kernel)), (by decide +kernel)⟩
set_option maxRecDepth 20000 in
theorem qw1398 : Cond.methodLink RL 41 yX11_rule ∈ wA := List.mem_filter.mpr ⟨zt6 (List.mem_of_getElem? (i := 101) (by decide +kernel)), (by decide +kernel)⟩
set_option maxRecDepth 20000 in
theorem qw1399 : Cond.instanceMethod yX11_rule ∈ wA := List.mem_filter.mpr ⟨zt6 (List.mem_of_getElem? (i := 102) (by decide +kernel)), (by decide +kernel)⟩
set_option maxRecDepth 20000 in
theorem qw1400 : Cond.selects RX11 yX11_rule yX11_rule ∈ wA := List.mem_filter.mpr ⟨zt6 (List.mem_of_getElem? (i := 103) (by decide +kernel)), (by decide +kernel)⟩
set_option maxRecDepth 20000 in
theorem qw1401 : Cond.code yX11_rule cX11_rule 2 (some .int) ∈ wA := List.mem_filter.mpr ⟨zt6 (List.mem_of_getElem? (i := 104) (by decide +kernel)), (by decide +kernel)⟩
set_option maxRecDepth 20000 in
theorem qw1402 : Cond.methodLink RL 47 yX11_bride ∈ wA := List.mem_filter.mpr ⟨zt6 (List.mem_of_getElem? (i := 105) (by decide +kernel)), (by decide +kernel)⟩
set_option maxRecDepth 20000 in
theorem qw1403 : Cond.instanceMethod yX11_bride ∈ wA := List.mem_filter.mpr ⟨zt6 (List.mem_of_getElem? (i := 106) (by decide +kernel)), (by decide +kernel)⟩
set_option maxRecDepth 20000 in
theorem qw1404 : Cond.selects RX11 yX11_bride yX11_bride ∈ wA := List.mem_filter.mpr ⟨zt6 (List.mem_of_getElem? (i := 107) (by decide +kernel)), (by decide +kernel)⟩
set_option maxRecDepth 20000 in
theorem qw1405 : Cond.code yX11_bride cX11_bride 3 (some .int) ∈ wA := List.mem_filter.mpr ⟨zt6 (List.mem_of_getElem? (i := 108) (by decide +kernel)), (by decide +kernel)⟩
set_option maxRecDepth 20000 in
theorem qw1406 : Cond.methodLink RX11 263 yX11_isBride ∈ wA := List.mem_filter.mpr ⟨zt6 (List.mem_of_getElem? (i := 109) (by decide +kernel)), (by decide +kernel)⟩
set_option maxRecDepth 20000 in
theorem qw1408 : Cond.instanceMethod yX11_isBride ∈ wA := List.mem_filter.mpr ⟨zt6 (List.mem_of_getElem? (i := 111) (by decide +kernel)), (by decide +kernel)⟩
set_option maxRecDepth 20000 in
theorem qw1409 : Cond.code yX11_isBride cX11_isBride 2 (some .boolean) ∈ wA := List.mem_filter.mpr ⟨zt6 (List.mem_of_getElem? (i := 112) (by decide +kernel)), (by decide +kernel)⟩
set_option maxRecDepth 20000 in
theorem qw1410 : Cond.methodLink RL 55 yX11_painter ∈ wA := List.mem_filter.mpr ⟨zt6 (List.mem_of_getElem? (i := 113) (by decide +kernel)), (by decide +kernel)⟩
set_option maxRecDepth 20000 in
theorem qw1411 : Cond.instanceMethod yX11_painter ∈ wA := List.mem_filter.mpr ⟨zt6 (List.mem_of_getElem? (i := 114) (by decide +kernel)), (by decide +kernel)⟩
set_option maxRecDepth 20000 in
theorem qw1412 : Cond.selects RX11 yX11_painter yX11_painter ∈ wA := List.mem_filter.mpr ⟨zt6 (List.mem_of_getElem? (i := 115) (by decide +kernel)), (by decide +kernel)⟩
set_option maxRecDepth 20000 in
theorem qw1413 : Cond.code yX11_painter cX11_painter 3 (some .int) ∈ wA := List.mem_filter.mpr ⟨zt6 (List.mem_of_getElem? (i := 116) (by decide +kernel)), (by decide +kernel)⟩
set_option maxRecDepth 20000 in
theorem qw1414 : Cond.methodLink RX11 260 yX11_isPainter ∈ wA := List.mem_filter.mpr ⟨zt6 (List.mem_of_getElem? (i := 117) (by decide +kernel)), (by decide +kernel)⟩
set_option maxRecDepth 20000 in
theorem qw1416 : Cond.instanceMethod yX11_isPainter ∈ wA := List.mem_filter.mpr ⟨zt6 (List.mem_of_getElem? (i := 119) (by decide +kernel)), (by decide +kernel)⟩
set_option maxRecDepth 20000 in
theorem qw1417 : Cond.code yX11_isPainter cX11_isPainter 2 (some .boolean) ∈ wA := List.mem_filter.mpr ⟨zt6 (List.mem_of_getElem? (i := 120) (by decide +kernel)), (by decide +kernel)⟩
set_option maxRecDepth 20000 in
theorem qw1418 : Cond.methodLink RL 59 yX11_law ∈ wA := List.mem_filter.mpr ⟨zt6 (List.mem_of_getElem? (i := 121) (by decide +kernel)), (by decide +kernel)⟩
set_option maxRecDepth 20000 in
theorem qw1419 : Cond.instanceMethod yX11_law ∈ wA := List.mem_filter.mpr ⟨zt6 (List.mem_of_getElem? (i := 122) (by decide +kernel)), (by decide +kernel)⟩
set_option maxRecDepth 20000 in
theorem qw1420 : Cond.selects RX11 yX11_law yX11_law ∈ wA := List.mem_filter.mpr ⟨zt6 (List.mem_of_getElem? (i := 123) (by decide +kernel)), (by decide +kernel)⟩
set_option maxRecDepth 20000 in
theorem qw1421 : Cond.code yX11_law cX11_law 2 (some .boolean) ∈ wA := List.mem_filter.mpr ⟨zt6 (List.mem_of_getElem? (i := 124) (by decide +kernel)), (by decide +kernel)⟩
set_option maxRecDepth 20000 in
theorem qw1422 : Cond.methodLink RL 63 yX11_flattery ∈ wA := List.mem_filter.mpr ⟨zt6 (List.mem_of_getElem? (i := 125) (by decide +kernel)), (by decide +kernel)⟩
set_option maxRecDepth 20000 in
theorem qw1423 : Cond.instanceMethod yX11_flattery ∈ wA := List.mem_filter.mpr ⟨zt6 (List.mem_of_getElem? (i := 126) (by decide +kernel)), (by decide +kernel)⟩
set_option maxRecDepth 20000 in
theorem qw1424 : Cond.selects RX11 yX11_flattery yX11_flattery ∈ wA := List.mem_filter.mpr ⟨zt6 (List.mem_of_getElem? (i := 127) (by decide +kernel)), (by decide +kernel)⟩
set_option maxRecDepth 20000 in
theorem qw1425 : Cond.code yX11_flattery cX11_flattery 3 (some .int) ∈ wA := List.mem_filter.mpr ⟨zt6 (List.mem_of_getElem? (i := 128) (by decide +kernel)), (by decide +kernel)⟩
set_option maxRecDepth 20000 in
theorem qw1426 : Cond.methodLink RX11 286 yX11_areBoth ∈ wA := List.mem_filter.mpr ⟨zt6 (List.mem_of_getElem? (i := 129) (by decide +kernel)), (by decide +kernel)⟩
set_option maxRecDepth 20000 in
theorem qw1428 : Cond.instanceMethod yX11_areBoth ∈ wA := List.mem_filter.mpr ⟨zt6 (List.mem_of_getElem? (i := 131) (by decide +kernel)), (by decide +kernel)⟩
set_option maxRecDepth 20000 in
theorem qw1429 : Cond.code yX11_areBoth cX11_areBoth 3 (some .boolean) ∈ wA := List.mem_filter.mpr ⟨zt6 (List.mem_of_getElem? (i := 132) (by decide +kernel)), (by decide +kernel)⟩
set_option maxRecDepth 20000 in
theorem qw1435 : Cond.methodLink RL 68 yX11_shown ∈ wA := List.mem_filter.mpr ⟨zt6 (List.mem_of_getElem? (i := 138) (by decide +kernel)), (by decide +kernel)⟩
set_option maxRecDepth 20000 in
theorem qw1436 : Cond.instanceMethod yX11_shown ∈ wA := List.mem_filter.mpr ⟨zt6 (List.mem_of_getElem? (i := 139) (by decide +kernel)), (by decide +kernel)⟩
set_option maxRecDepth 20000 in
theorem qw1437 : Cond.selects RX11 yX11_shown yX11_shown ∈ wA := List.mem_filter.mpr ⟨zt6 (List.mem_of_getElem? (i := 140) (by decide +kernel)), (by decide +kernel)⟩
set_option maxRecDepth 20000 in
theorem qw1438 : Cond.code yX11_shown cX11_shown 4 (some .int) ∈ wA := List.mem_filter.mpr ⟨zt6 (List.mem_of_getElem? (i := 141) (by decide +kernel)), (by decide +kernel)⟩
set_option maxRecDepth 20000 in
theorem qw1481 : Cond.methodLink RL 72 yX11_paint ∈ wA := List.mem_filter.mpr ⟨zt6 (List.mem_of_getElem? (i := 184) (by decide +kernel)), (by decide +kernel)⟩
set_option maxRecDepth 20000 in
theorem qw1482 : Cond.instanceMethod yX11_paint ∈ wA := List.mem_filter.mpr ⟨zt6 (List.mem_of_getElem? (i := 185) (by decide +kernel)), (by decide +kernel)⟩
set_option maxRecDepth 20000 in
theorem qw1483 : Cond.selects RX11 yX11_paint yX11_paint ∈ wA := List.mem_filter.mpr ⟨zt6 (List.mem_of_getElem? (i := 186) (by decide +kernel)), (by decide +kernel)⟩
set_option maxRecDepth 20000 in
theorem qw1484 : Cond.code yX11_paint cX11_paint 3 (some .int) ∈ wA := List.mem_filter.mpr ⟨zt6 (List.mem_of_getElem? (i := 187) (by decide +kernel)), (by decide +kernel)⟩
set_option maxRecDepth 20000 in
theorem qw1485 : Cond.methodLink RX11 295 yX11_isRefused ∈ wA := List.mem_filter.mpr ⟨zt6 (List.mem_of_getElem? (i := 188) (by decide +kernel)), (by decide +kernel)⟩
set_option maxRecDepth 20000 in
theorem qw1487 : Cond.instanceMethod yX11_isRefused ∈ wA := List.mem_filter.mpr ⟨zt6 (List.mem_of_getElem? (i := 190) (by decide +kernel)), (by decide +kernel)⟩
set_option maxRecDepth 20000 in
theorem qw1488 : Cond.code yX11_isRefused cX11_isRefused 2 (some .boolean) ∈ wA := List.mem_filter.mpr ⟨zt6 (List.mem_of_getElem? (i := 191) (by decide +kernel)), (by decide +kernel)⟩
set_option maxRecDepth 20000 in
theorem qw1497 : Cond.methodLink RL 76 yX11_pay ∈ wA := List.mem_filter.mpr ⟨zt6 (List.mem_of_getElem? (i := 200) (by decide +kernel)), (by decide +kernel)⟩
set_option maxRecDepth 20000 in
theorem qw1498 : Cond.instanceMethod yX11_pay ∈ wA := List.mem_filter.mpr ⟨zt6 (List.mem_of_getElem? (i := 201) (by decide +kernel)), (by decide +kernel)⟩
set_option maxRecDepth 20000 in
theorem qw1499 : Cond.selects RX11 yX11_pay yX11_pay ∈ wA := List.mem_filter.mpr ⟨zt6 (List.mem_of_getElem? (i := 202) (by decide +kernel)), (by decide +kernel)⟩
set_option maxRecDepth 20000 in
theorem qw1500 : Cond.code yX11_pay cX11_pay 3 (some .int) ∈ wA := List.mem_filter.mpr ⟨zt6 (List.mem_of_getElem? (i := 203) (by decide +kernel)), (by decide +kernel)⟩
set_option maxRecDepth 20000 in
theorem qw1501 : Cond.methodLink RL 80 yX11_threaten ∈ wA := List.mem_filter.mpr ⟨zt6 (List.mem_of_getElem? (i := 204) (by decide +kernel)), (by decide +kernel)⟩
set_option maxRecDepth 20000 in
theorem qw1502 : Cond.instanceMethod yX11_threaten ∈ wA := List.mem_filter.mpr ⟨zt6 (List.mem_of_getElem? (i := 205) (by decide +kernel)), (by decide +kernel)⟩
set_option maxRecDepth 20000 in
theorem qw1503 : Cond.selects RX11 yX11_threaten yX11_threaten ∈ wA := List.mem_filter.mpr ⟨zt6 (List.mem_of_getElem? (i := 206) (by decide +kernel)), (by decide +kernel)⟩
set_option maxRecDepth 20000 in
theorem qw1504 : Cond.code yX11_threaten cX11_threaten 2 (some .int) ∈ wA := List.mem_filter.mpr ⟨zt6 (List.mem_of_getElem? (i := 207) (by decide +kernel)), (by decide +kernel)⟩
set_option maxRecDepth 20000 in
theorem qw1505 : Cond.methodLink RL 84 yX11_letter ∈ wA := List.mem_filter.mpr ⟨zt6 (List.mem_of_getElem? (i := 208) (by decide +kernel)), (by decide +kernel)⟩
set_option maxRecDepth 20000 in
theorem qw1506 : Cond.instanceMethod yX11_letter ∈ wA := List.mem_filter.mpr ⟨zt6 (List.mem_of_getElem? (i := 209) (by decide +kernel)), (by decide +kernel)⟩
set_option maxRecDepth 20000 in
theorem qw1507 : Cond.selects RX11 yX11_letter yX11_letter ∈ wA := List.mem_filter.mpr ⟨zt6 (List.mem_of_getElem? (i := 210) (by decide +kernel)), (by decide +kernel)⟩
set_option maxRecDepth 20000 in
theorem qw1508 : Cond.code yX11_letter cX11_letter 2 (some .int) ∈ wA := List.mem_filter.mpr ⟨zt6 (List.mem_of_getElem? (i := 211) (by decide +kernel)), (by decide +kernel)⟩
set_option maxRecDepth 20000 in
theorem qw1509 : Cond.methodLink RX11 304 yX11_isTold ∈ wA := List.mem_filter.mpr ⟨zt6 (List.mem_of_getElem? (i := 212) (by decide +kernel)), (by decide +kernel)⟩
set_option maxRecDepth 20000 in
theorem qw1511 : Cond.instanceMethod yX11_isTold ∈ wA := List.mem_filter.mpr ⟨zt6 (List.mem_of_getElem? (i := 214) (by decide +kernel)), (by decide +kernel)⟩
set_option maxRecDepth 20000 in
theorem qw1512 : Cond.code yX11_isTold cX11_isTold 4 (some .boolean) ∈ wA := List.mem_filter.mpr ⟨zt6 (List.mem_of_getElem? (i := 215) (by decide +kernel)), (by decide +kernel)⟩
set_option maxRecDepth 20000 in
theorem qw1513 : Cond.methodLink RL 88 yX11_shoe ∈ wA := List.mem_filter.mpr ⟨zt6 (List.mem_of_getElem? (i := 216) (by decide +kernel)), (by decide +kernel)⟩
set_option maxRecDepth 20000 in
theorem qw1514 : Cond.instanceMethod yX11_shoe ∈ wA := List.mem_filter.mpr ⟨zt6 (List.mem_of_getElem? (i := 217) (by decide +kernel)), (by decide +kernel)⟩
set_option maxRecDepth 20000 in
theorem qw1515 : Cond.selects RX11 yX11_shoe yX11_shoe ∈ wA := List.mem_filter.mpr ⟨zt6 (List.mem_of_getElem? (i := 218) (by decide +kernel)), (by decide +kernel)⟩
set_option maxRecDepth 20000 in
theorem qw1516 : Cond.code yX11_shoe cX11_shoe 2 (some .int) ∈ wA := List.mem_filter.mpr ⟨zt6 (List.mem_of_getElem? (i := 219) (by decide +kernel)), (by decide +kernel)⟩
set_option maxRecDepth 20000 in
theorem qw1517 : Cond.methodLink RL 92 yX11_wed ∈ wA := List.mem_filter.mpr ⟨zt6 (List.mem_of_getElem? (i := 220) (by decide +kernel)), (by decide +kernel)⟩
set_option maxRecDepth 20000 in
theorem qw1518 : Cond.instanceMethod yX11_wed ∈ wA := List.mem_filter.mpr ⟨zt6 (List.mem_of_getElem? (i := 221) (by decide +kernel)), (by decide +kernel)⟩
set_option maxRecDepth 20000 in
theorem qw1519 : Cond.selects RX11 yX11_wed yX11_wed ∈ wA := List.mem_filter.mpr ⟨zt6 (List.mem_of_getElem? (i := 222) (by decide +kernel)), (by decide +kernel)⟩
set_option maxRecDepth 20000 in
theorem qw1520 : Cond.code yX11_wed cX11_wed 2 (some .int) ∈ wA := List.mem_filter.mpr ⟨zt6 (List.mem_of_getElem? (i := 223) (by decide +kernel)), (by decide +kernel)⟩
set_option maxRecDepth 20000 in
theorem qw1521 : Cond.methodLink RL 96 yX11_annul ∈ wA := List.mem_filter.mpr ⟨zt6 (List.mem_of_getElem? (i := 224) (by decide +kernel)), (by decide +kernel)⟩
set_option maxRecDepth 20000 in
theorem qw1522 : Cond.instanceMethod yX11_annul ∈ wA := List.mem_filter.mpr ⟨zt6 (List.mem_of_getElem? (i := 225) (by decide +kernel)), (by decide +kernel)⟩
set_option maxRecDepth 20000 in
theorem qw1523 : Cond.selects RX11 yX11_annul yX11_annul ∈ wA := List.mem_filter.mpr ⟨zt6 (List.mem_of_getElem? (i := 226) (by decide +kernel)), (by decide +kernel)⟩
set_option maxRecDepth 20000 in
theorem qw1524 : Cond.code yX11_annul cX11_annul 2 (some .int) ∈ wA := List.mem_filter.mpr ⟨zt6 (List.mem_of_getElem? (i := 227) (by decide +kernel)), (by decide +kernel)⟩
set_option maxRecDepth 20000 in
theorem qw1533 : Cond.methodLink RL 100 yX11_months ∈ wA := List.mem_filter.mpr ⟨zt6 (List.mem_of_getElem? (i := 236) (by decide +kernel)), (by decide +kernel)⟩
set_option maxRecDepth 20000 in
theorem qw1534 : Cond.instanceMethod yX11_months ∈ wA := List.mem_filter.mpr ⟨zt6 (List.mem_of_getElem? (i := 237) (by decide +kernel)), (by decide +kernel)⟩
set_option maxRecDepth 20000 in
theorem qw1535 : Cond.selects RX11 yX11_months yX11_months ∈ wA := List.mem_filter.mpr ⟨zt6 (List.mem_of_getElem? (i := 238) (by decide +kernel)), (by decide +kernel)⟩
set_option maxRecDepth 20000 in
theorem qw1536 : Cond.code yX11_months cX11_months 3 (some .int) ∈ wA := List.mem_filter.mpr ⟨zt6 (List.mem_of_getElem? (i := 239) (by decide +kernel)), (by decide +kernel)⟩
set_option maxRecDepth 20000 in
theorem qw1545 : Cond.methodLink RL 104 yX11_bribes ∈ wA := List.mem_filter.mpr ⟨zt7 (List.mem_of_getElem? (i := 8) (by decide +kernel)), (by decide +kernel)⟩
set_option maxRecDepth 20000 in
theorem qw1546 : Cond.instanceMethod yX11_bribes ∈ wA := List.mem_filter.mpr ⟨zt7 (List.mem_of_getElem? (i := 9) (by decide +kernel)), (by decide +kernel)⟩
set_option maxRecDepth 20000 in
theorem qw1547 : Cond.selects RX11 yX11_bribes yX11_bribes ∈ wA := List.mem_filter.mpr ⟨zt7 (List.mem_of_getElem? (i := 10) (by decide +kernel)), (by decide +kernel)⟩
set_option maxRecDepth 20000 in
theorem qw1548 : Cond.code yX11_bribes cX11_bribes 2 (some .boolean) ∈ wA := List.mem_filter.mpr ⟨zt7 (List.mem_of_getElem? (i := 11) (by decide +kernel)), (by decide +kernel)⟩
set_option maxRecDepth 20000 in
theorem qw1549 : Cond.methodLink RL 111 yX11_decades ∈ wA := List.mem_filter.mpr ⟨zt7 (List.mem_of_getElem? (i := 12) (by decide +kernel)), (by decide +kernel)⟩
set_option maxRecDepth 20000 in
theorem qw1550 : Cond.instanceMethod yX11_decades ∈ wA := List.mem_filter.mpr ⟨zt7 (List.mem_of_getElem? (i := 13) (by decide +kernel)), (by decide +kernel)⟩
set_option maxRecDepth 20000 in
theorem qw1551 : Cond.selects RX11 yX11_decades yX11_decades ∈ wA := List.mem_filter.mpr ⟨zt7 (List.mem_of_getElem? (i := 14) (by decide +kernel)), (by decide +kernel)⟩
set_option maxRecDepth 20000 in
theorem qw1552 : Cond.code yX11_decades cX11_decades 5 (some .int) ∈ wA := List.mem_filter.mpr ⟨zt7 (List.mem_of_getElem? (i := 15) (by decide +kernel)), (by decide +kernel)⟩
set_option maxRecDepth 20000 in
theorem qw1563 : Cond.methodLink RL 115 yX11_status ∈ wA := List.mem_filter.mpr ⟨zt7 (List.mem_of_getElem? (i := 26) (by decide +kernel)), (by decide +kernel)⟩
set_option maxRecDepth 20000 in
theorem qw1564 : Cond.instanceMethod yX11_status ∈ wA := List.mem_filter.mpr ⟨zt7 (List.mem_of_getElem? (i := 27) (by decide +kernel)), (by decide +kernel)⟩
set_option maxRecDepth 20000 in
theorem qw1565 : Cond.selects RX11 yX11_status yX11_status ∈ wA := List.mem_filter.mpr ⟨zt7 (List.mem_of_getElem? (i := 28) (by decide +kernel)), (by decide +kernel)⟩
set_option maxRecDepth 20000 in
theorem qw1566 : Cond.code yX11_status cX11_status 2 (some .int) ∈ wA := List.mem_filter.mpr ⟨zt7 (List.mem_of_getElem? (i := 29) (by decide +kernel)), (by decide +kernel)⟩
set_option maxRecDepth 20000 in
theorem qw1567 : Cond.methodLink RL 119 yX11_undo ∈ wA := List.mem_filter.mpr ⟨zt7 (List.mem_of_getElem? (i := 30) (by decide +kernel)), (by decide +kernel)⟩
set_option maxRecDepth 20000 in
theorem qw1568 : Cond.instanceMethod yX11_undo ∈ wA := List.mem_filter.mpr ⟨zt7 (List.mem_of_getElem? (i := 31) (by decide +kernel)), (by decide +kernel)⟩
set_option maxRecDepth 20000 in
theorem qw1569 : Cond.selects RX11 yX11_undo yX11_undo ∈ wA := List.mem_filter.mpr ⟨zt7 (List.mem_of_getElem? (i := 32) (by decide +kernel)), (by decide +kernel)⟩
set_option maxRecDepth 20000 in
theorem qw1570 : Cond.code yX11_undo cX11_undo 2 (some .int) ∈ wA := List.mem_filter.mpr ⟨zt7 (List.mem_of_getElem? (i := 33) (by decide +kernel)), (by decide +kernel)⟩
set_option maxRecDepth 20000 in
theorem qw1571 : Cond.methodLink RL 123 yX11_portrait ∈ wA := List.mem_filter.mpr ⟨zt7 (List.mem_of_getElem? (i := 34) (by decide +kernel)), (by decide +kernel)⟩
set_option maxRecDepth 20000 in
theorem qw1572 : Cond.instanceMethod yX11_portrait ∈ wA := List.mem_filter.mpr ⟨zt7 (List.mem_of_getElem? (i := 35) (by decide +kernel)), (by decide +kernel)⟩
set_option maxRecDepth 20000 in
theorem qw1573 : Cond.selects RX11 yX11_portrait yX11_portrait ∈ wA := List.mem_filter.mpr ⟨zt7 (List.mem_of_getElem? (i := 36) (by decide +kernel)), (by decide +kernel)⟩
set_option maxRecDepth 20000 in
theorem qw1574 : Cond.code yX11_portrait cX11_portrait 3 (some .int) ∈ wA := List.mem_filter.mpr ⟨zt7 (List.mem_of_getElem? (i := 37) (by decide +kernel)), (by decide +kernel)⟩
set_option maxRecDepth 20000 in
theorem qw1575 : Cond.methodLink RL 127 yX11_fits ∈ wA := List.mem_filter.mpr ⟨zt7 (List.mem_of_getElem? (i := 38) (by decide +kernel)), (by decide +kernel)⟩
set_option maxRecDepth 20000 in
theorem qw1576 : Cond.instanceMethod yX11_fits ∈ wA := List.mem_filter.mpr ⟨zt7 (List.mem_of_getElem? (i := 39) (by decide +kernel)), (by decide +kernel)⟩
set_option maxRecDepth 20000 in
theorem qw1577 : Cond.selects RX11 yX11_fits yX11_fits ∈ wA := List.mem_filter.mpr ⟨zt7 (List.mem_of_getElem? (i := 40) (by decide +kernel)), (by decide +kernel)⟩
set_option maxRecDepth 20000 in
theorem qw1578 : Cond.code yX11_fits cX11_fits 2 (some .int) ∈ wA := List.mem_filter.mpr ⟨zt7 (List.mem_of_getElem? (i := 41) (by decide +kernel)), (by decide +kernel)⟩
set_option maxRecDepth 20000 in
theorem qw1587 : Cond.methodLink RL 131 yX11_belief ∈ wA := List.mem_filter.mpr ⟨zt7 (List.mem_of_getElem? (i := 50) (by decide +kernel)), (by decide +kernel)⟩
set_option maxRecDepth 20000 in
theorem qw1588 : Cond.instanceMethod yX11_belief ∈ wA := List.mem_filter.mpr ⟨zt7 (List.mem_of_getElem? (i := 51) (by decide +kernel)), (by decide +kernel)⟩
set_option maxRecDepth 20000 in
theorem qw1589 : Cond.selects RX11 yX11_belief yX11_belief ∈ wA := List.mem_filter.mpr ⟨zt7 (List.mem_of_getElem? (i := 52) (by decide +kernel)), (by decide +kernel)⟩
set_option maxRecDepth 20000 in
theorem qw1590 : Cond.code yX11_belief cX11_belief 3 (some .int) ∈ wA := List.mem_filter.mpr ⟨zt7 (List.mem_of_getElem? (i := 53) (by decide +kernel)), (by decide +kernel)⟩
set_option maxRecDepth 20000 in
theorem qw1600 : Cond.methodLink RL 135 yX11_likely ∈ wA := List.mem_filter.mpr ⟨zt7 (List.mem_of_getElem? (i := 63) (by decide +kernel)), (by decide +kernel)⟩
set_option maxRecDepth 20000 in
theorem qw1601 : Cond.instanceMethod yX11_likely ∈ wA := List.mem_filter.mpr ⟨zt7 (List.mem_of_getElem? (i := 64) (by decide +kernel)), (by decide +kernel)⟩
set_option maxRecDepth 20000 in
theorem qw1602 : Cond.selects RX11 yX11_likely yX11_likely ∈ wA := List.mem_filter.mpr ⟨zt7 (List.mem_of_getElem? (i := 65) (by decide +kernel)), (by decide +kernel)⟩
set_option maxRecDepth 20000 in
theorem qw1603 : Cond.code yX11_likely cX11_likely 4 (some .int) ∈ wA := List.mem_filter.mpr ⟨zt7 (List.mem_of_getElem? (i := 66) (by decide +kernel)), (by decide +kernel)⟩
set_option maxRecDepth 20000 in
theorem qw1608 : Cond.methodLink RL 139 yX11_sure ∈ wA := List.mem_filter.mpr ⟨zt7 (List.mem_of_getElem? (i := 71) (by decide +kernel)), (by decide +kernel)⟩
set_option maxRecDepth 20000 in
theorem qw1609 : Cond.instanceMethod yX11_sure ∈ wA := List.mem_filter.mpr ⟨zt7 (List.mem_of_getElem? (i := 72) (by decide +kernel)), (by decide +kernel)⟩
set_option maxRecDepth 20000 in
theorem qw1610 : Cond.selects RX11 yX11_sure yX11_sure ∈ wA := List.mem_filter.mpr ⟨zt7 (List.mem_of_getElem? (i := 73) (by decide +kernel)), (by decide +kernel)⟩
set_option maxRecDepth 20000 in
theorem qw1611 : Cond.code yX11_sure cX11_sure 3 (some .int) ∈ wA := List.mem_filter.mpr ⟨zt7 (List.mem_of_getElem? (i := 74) (by decide +kernel)), (by decide +kernel)⟩
set_option maxRecDepth 20000 in
theorem qw1613 : Cond.methodLink RL 143 yX11_next ∈ wA := List.mem_filter.mpr ⟨zt7 (List.mem_of_getElem? (i := 76) (by decide +kernel)), (by decide +kernel)⟩
set_option maxRecDepth 20000 in
theorem qw1614 : Cond.instanceMethod yX11_next ∈ wA := List.mem_filter.mpr ⟨zt7 (List.mem_of_getElem? (i := 77) (by decide +kernel)), (by decide +kernel)⟩
set_option maxRecDepth 20000 in
theorem qw1615 : Cond.selects RX11 yX11_next yX11_next ∈ wA := List.mem_filter.mpr ⟨zt7 (List.mem_of_getElem? (i := 78) (by decide +kernel)), (by decide +kernel)⟩
set_option maxRecDepth 20000 in
theorem qw1616 : Cond.code yX11_next cX11_next 5 (some .int) ∈ wA := List.mem_filter.mpr ⟨zt7 (List.mem_of_getElem? (i := 79) (by decide +kernel)), (by decide +kernel)⟩
set_option maxRecDepth 20000 in
theorem qw1621 : Cond.methodLink RL 147 yX11_apart ∈ wA := List.mem_filter.mpr ⟨zt7 (List.mem_of_getElem? (i := 84) (by decide +kernel)), (by decide +kernel)⟩
set_option maxRecDepth 20000 in
theorem qw1622 : Cond.instanceMethod yX11_apart ∈ wA := List.mem_filter.mpr ⟨zt7 (List.mem_of_getElem? (i := 85) (by decide +kernel)), (by decide +kernel)⟩
set_option maxRecDepth 20000 in
theorem qw1623 : Cond.selects RX11 yX11_apart yX11_apart ∈ wA := List.mem_filter.mpr ⟨zt7 (List.mem_of_getElem? (i := 86) (by decide +kernel)), (by decide +kernel)⟩
set_option maxRecDepth 20000 in
theorem qw1624 : Cond.code yX11_apart cX11_apart 5 (some .int) ∈ wA := List.mem_filter.mpr ⟨zt7 (List.mem_of_getElem? (i := 87) (by decide +kernel)), (by decide +kernel)⟩
set_option maxRecDepth 20000 in
theorem qw1638 : Cond.methodLink RL 151 yX11_worth ∈ wA := List.mem_filter.mpr ⟨zt7 (List.mem_of_getElem? (i := 101) (by decide +kernel)), (by decide +kernel)⟩
set_option maxRecDepth 20000 in
theorem qw1639 : Cond.instanceMethod yX11_worth ∈ wA := List.mem_filter.mpr ⟨zt7 (List.mem_of_getElem? (i := 102) (by decide +kernel)), (by decide +kernel)⟩
set_option maxRecDepth 20000 in
theorem qw1640 : Cond.selects RX11 yX11_worth yX11_worth ∈ wA := List.mem_filter.mpr ⟨zt7 (List.mem_of_getElem? (i := 103) (by decide +kernel)), (by decide +kernel)⟩
set_option maxRecDepth 20000 in
theorem qw1641 : Cond.code yX11_worth cX11_worth 3 (some .int) ∈ wA := List.mem_filter.mpr ⟨zt7 (List.mem_of_getElem? (i := 104) (by decide +kernel)), (by decide +kernel)⟩
set_option maxRecDepth 20000 in
theorem qw1646 : Cond.methodLink RL 155 yX11_chooses ∈ wA := List.mem_filter.mpr ⟨zt7 (List.mem_of_getElem? (i := 109) (by decide +kernel)), (by decide +kernel)⟩
set_option maxRecDepth 20000 in
theorem qw1647 : Cond.instanceMethod yX11_chooses ∈ wA := List.mem_filter.mpr ⟨zt7 (List.mem_of_getElem? (i := 110) (by decide +kernel)), (by decide +kernel)⟩
set_option maxRecDepth 20000 in
theorem qw1648 : Cond.selects RX11 yX11_chooses yX11_chooses ∈ wA := List.mem_filter.mpr ⟨zt7 (List.mem_of_getElem? (i := 111) (by decide +kernel)), (by decide +kernel)⟩
set_option maxRecDepth 20000 in
theorem qw1649 : Cond.code yX11_chooses cX11_chooses 2 (some .int) ∈ wA := List.mem_filter.mpr ⟨zt7 (List.mem_of_getElem? (i := 112) (by decide +kernel)), (by decide +kernel)⟩
set_option maxRecDepth 20000 in
theorem qw1658 : Cond.methodLink RL 160 yX11_game ∈ wA := List.mem_filter.mpr ⟨zt7 (List.mem_of_getElem? (i := 121) (by decide +kernel)), (by decide +kernel)⟩
set_option maxRecDepth 20000 in
theorem qw1659 : Cond.instanceMethod yX11_game ∈ wA := List.mem_filter.mpr ⟨zt7 (List.mem_of_getElem? (i := 122) (by decide +kernel)), (by decide +kernel)⟩
set_option maxRecDepth 20000 in
theorem qw1660 : Cond.selects RX11 yX11_game yX11_game ∈ wA := List.mem_filter.mpr ⟨zt7 (List.mem_of_getElem? (i := 123) (by decide +kernel)), (by decide +kernel)⟩
set_option maxRecDepth 20000 in
theorem qw1661 : Cond.code yX11_game cX11_game 7 (some .int) ∈ wA := List.mem_filter.mpr ⟨zt7 (List.mem_of_getElem? (i := 124) (by decide +kernel)), (by decide +kernel)⟩
set_option maxRecDepth 20000 in
theorem qw1662 : Cond.methodLink RX11 383 yX11_areTwo ∈ wA := List.mem_filter.mpr ⟨zt7 (List.mem_of_getElem? (i := 125) (by decide +kernel)), (by decide +kernel)⟩
set_option maxRecDepth 20000 in
theorem qw1664 : Cond.instanceMethod yX11_areTwo ∈ wA := List.mem_filter.mpr ⟨zt7 (List.mem_of_getElem? (i := 127) (by decide +kernel)), (by decide +kernel)⟩
set_option maxRecDepth 20000 in
theorem qw1665 : Cond.code yX11_areTwo cX11_areTwo 4 (some .boolean) ∈ wA := List.mem_filter.mpr ⟨zt7 (List.mem_of_getElem? (i := 128) (by decide +kernel)), (by decide +kernel)⟩
set_option maxRecDepth 20000 in
theorem qw1666 : Cond.constant RX11 386 (-1000000) ∈ wA := List.mem_filter.mpr ⟨zt7 (List.mem_of_getElem? (i := 129) (by decide +kernel)), (by decide +kernel)⟩
set_option maxRecDepth 20000 in
theorem qw1671 : Cond.methodLink RL 165 yX11_rests ∈ wA := List.mem_filter.mpr ⟨zt7 (List.mem_of_getElem? (i := 134) (by decide +kernel)), (by decide +kernel)⟩
set_option maxRecDepth 20000 in
theorem qw1672 : Cond.instanceMethod yX11_rests ∈ wA := List.mem_filter.mpr ⟨zt7 (List.mem_of_getElem? (i := 135) (by decide +kernel)), (by decide +kernel)⟩
set_option maxRecDepth 20000 in
theorem qw1673 : Cond.selects RX11 yX11_rests yX11_rests ∈ wA := List.mem_filter.mpr ⟨zt7 (List.mem_of_getElem? (i := 136) (by decide +kernel)), (by decide +kernel)⟩
set_option maxRecDepth 20000 in
theorem qw1674 : Cond.code yX11_rests cX11_rests 7 (some .int) ∈ wA := List.mem_filter.mpr ⟨zt7 (List.mem_of_getElem? (i := 137) (by decide +kernel)), (by decide +kernel)⟩
set_option maxRecDepth 20000 in
theorem qw1679 : Cond.methodLink RL 169 yX11_truth ∈ wA := List.mem_filter.mpr ⟨zt7 (List.mem_of_getElem? (i := 142) (by decide +kernel)), (by decide +kernel)⟩
set_option maxRecDepth 20000 in
theorem qw1680 : Cond.instanceMethod yX11_truth ∈ wA := List.mem_filter.mpr ⟨zt7 (List.mem_of_getElem? (i := 143) (by decide +kernel)), (by decide +kernel)⟩
set_option maxRecDepth 20000 in
theorem qw1681 : Cond.selects RX11 yX11_truth yX11_truth ∈ wA := List.mem_filter.mpr ⟨zt7 (List.mem_of_getElem? (i := 144) (by decide +kernel)), (by decide +kernel)⟩
set_option maxRecDepth 20000 in
theorem qw1682 : Cond.code yX11_truth cX11_truth 3 (some .int) ∈ wA := List.mem_filter.mpr ⟨zt7 (List.mem_of_getElem? (i := 145) (by decide +kernel)), (by decide +kernel)⟩
set_option maxRecDepth 20000 in
theorem qw1683 : Cond.methodLink RL 173 yX11_cheapest ∈ wA := List.mem_filter.mpr ⟨zt7 (List.mem_of_getElem? (i := 146) (by decide +kernel)), (by decide +kernel)⟩
set_option maxRecDepth 20000 in
theorem qw1684 : Cond.instanceMethod yX11_cheapest ∈ wA := List.mem_filter.mpr ⟨zt7 (List.mem_of_getElem? (i := 147) (by decide +kernel)), (by decide +kernel)⟩
set_option maxRecDepth 20000 in
theorem qw1685 : Cond.selects RX11 yX11_cheapest yX11_cheapest ∈ wA := List.mem_filter.mpr ⟨zt7 (List.mem_of_getElem? (i := 148) (by decide +kernel)), (by decide +kernel)⟩
set_option maxRecDepth 20000 in
theorem qw1686 : Cond.code yX11_cheapest cX11_cheapest 3 (some .int) ∈ wA := List.mem_filter.mpr ⟨zt7 (List.mem_of_getElem? (i := 149) (by decide +kernel)), (by decide +kernel)⟩
set_option maxRecDepth 20000 in
theorem qw1691 : Cond.methodLink RL 177 yX11_looks ∈ wA := List.mem_filter.mpr ⟨zt7 (List.mem_of_getElem? (i := 154) (by decide +kernel)), (by decide +kernel)⟩
set_option maxRecDepth 20000 in
theorem qw1692 : Cond.instanceMethod yX11_looks ∈ wA := List.mem_filter.mpr ⟨zt7 (List.mem_of_getElem? (i := 155) (by decide +kernel)), (by decide +kernel)⟩
set_option maxRecDepth 20000 in
theorem qw1693 : Cond.selects RX11 yX11_looks yX11_looks ∈ wA := List.mem_filter.mpr ⟨zt7 (List.mem_of_getElem? (i := 156) (by decide +kernel)), (by decide +kernel)⟩
set_option maxRecDepth 20000 in
theorem qw1694 : Cond.code yX11_looks cX11_looks 2 (some .int) ∈ wA := List.mem_filter.mpr ⟨zt7 (List.mem_of_getElem? (i := 157) (by decide +kernel)), (by decide +kernel)⟩
set_option maxRecDepth 20000 in
theorem qw1695 : Cond.methodLink RL 181 yX11_whose ∈ wA := List.mem_filter.mpr ⟨zt7 (List.mem_of_getElem? (i := 158) (by decide +kernel)), (by decide +kernel)⟩
set_option maxRecDepth 20000 in
theorem qw1696 : Cond.instanceMethod yX11_whose ∈ wA := List.mem_filter.mpr ⟨zt7 (List.mem_of_getElem? (i := 159) (by decide +kernel)), (by decide +kernel)⟩
set_option maxRecDepth 20000 in
theorem qw1697 : Cond.selects RX11 yX11_whose yX11_whose ∈ wA := List.mem_filter.mpr ⟨zt7 (List.mem_of_getElem? (i := 160) (by decide +kernel)), (by decide +kernel)⟩
set_option maxRecDepth 20000 in
theorem qw1698 : Cond.code yX11_whose cX11_whose 5 (some .int) ∈ wA := List.mem_filter.mpr ⟨zt7 (List.mem_of_getElem? (i := 161) (by decide +kernel)), (by decide +kernel)⟩
set_option maxRecDepth 20000 in
theorem qw1699 : Cond.methodLink RL 185 yX11_heads ∈ wA := List.mem_filter.mpr ⟨zt7 (List.mem_of_getElem? (i := 162) (by decide +kernel)), (by decide +kernel)⟩
set_option maxRecDepth 20000 in
theorem qw1700 : Cond.instanceMethod yX11_heads ∈ wA := List.mem_filter.mpr ⟨zt7 (List.mem_of_getElem? (i := 163) (by decide +kernel)), (by decide +kernel)⟩
set_option maxRecDepth 20000 in
theorem qw1701 : Cond.selects RX11 yX11_heads yX11_heads ∈ wA := List.mem_filter.mpr ⟨zt7 (List.mem_of_getElem? (i := 164) (by decide +kernel)), (by decide +kernel)⟩
set_option maxRecDepth 20000 in
theorem qw1702 : Cond.code yX11_heads cX11_heads 8 (some .int) ∈ wA := List.mem_filter.mpr ⟨zt7 (List.mem_of_getElem? (i := 165) (by decide +kernel)), (by decide +kernel)⟩
set_option maxRecDepth 20000 in
theorem qw1705 : Cond.methodLink RL 189 yX11_matched ∈ wA := List.mem_filter.mpr ⟨zt7 (List.mem_of_getElem? (i := 168) (by decide +kernel)), (by decide +kernel)⟩
set_option maxRecDepth 20000 in
theorem qw1706 : Cond.instanceMethod yX11_matched ∈ wA := List.mem_filter.mpr ⟨zt7 (List.mem_of_getElem? (i := 169) (by decide +kernel)), (by decide +kernel)⟩
set_option maxRecDepth 20000 in
theorem qw1707 : Cond.selects RX11 yX11_matched yX11_matched ∈ wA := List.mem_filter.mpr ⟨zt7 (List.mem_of_getElem? (i := 170) (by decide +kernel)), (by decide +kernel)⟩
set_option maxRecDepth 20000 in
theorem qw1708 : Cond.code yX11_matched cX11_matched 4 (some .int) ∈ wA := List.mem_filter.mpr ⟨zt7 (List.mem_of_getElem? (i := 171) (by decide +kernel)), (by decide +kernel)⟩
set_option maxRecDepth 20000 in
theorem qw1721 : Cond.methodLink RL 193 yX11_most ∈ wA := List.mem_filter.mpr ⟨zt7 (List.mem_of_getElem? (i := 184) (by decide +kernel)), (by decide +kernel)⟩
set_option maxRecDepth 20000 in
theorem qw1722 : Cond.instanceMethod yX11_most ∈ wA := List.mem_filter.mpr ⟨zt7 (List.mem_of_getElem? (i := 185) (by decide +kernel)), (by decide +kernel)⟩
set_option maxRecDepth 20000 in
theorem qw1723 : Cond.selects RX11 yX11_most yX11_most ∈ wA := List.mem_filter.mpr ⟨zt7 (List.mem_of_getElem? (i := 186) (by decide +kernel)), (by decide +kernel)⟩
set_option maxRecDepth 20000 in
theorem qw1724 : Cond.code yX11_most cX11_most 5 (some .int) ∈ wA := List.mem_filter.mpr ⟨zt7 (List.mem_of_getElem? (i := 187) (by decide +kernel)), (by decide +kernel)⟩
set_option maxRecDepth 20000 in
theorem qw1733 : Cond.methodLink RL 197 yX11_seen ∈ wA := List.mem_filter.mpr ⟨zt7 (List.mem_of_getElem? (i := 196) (by decide +kernel)), (by decide +kernel)⟩
set_option maxRecDepth 20000 in
theorem qw1734 : Cond.instanceMethod yX11_seen ∈ wA := List.mem_filter.mpr ⟨zt7 (List.mem_of_getElem? (i := 197) (by decide +kernel)), (by decide +kernel)⟩
set_option maxRecDepth 20000 in
theorem qw1735 : Cond.selects RX11 yX11_seen yX11_seen ∈ wA := List.mem_filter.mpr ⟨zt7 (List.mem_of_getElem? (i := 198) (by decide +kernel)), (by decide +kernel)⟩
set_option maxRecDepth 20000 in
theorem qw1736 : Cond.code yX11_seen cX11_seen 2 (some .int) ∈ wA := List.mem_filter.mpr ⟨zt7 (List.mem_of_getElem? (i := 199) (by decide +kernel)), (by decide +kernel)⟩
set_option maxRecDepth 20000 in
theorem qw1737 : Cond.methodLink RL 201 yX11_saves ∈ wA := List.mem_filter.mpr ⟨zt7 (List.mem_of_getElem? (i := 200) (by decide +kernel)), (by decide +kernel)⟩
set_option maxRecDepth 20000 in
theorem qw1738 : Cond.instanceMethod yX11_saves ∈ wA := List.mem_filter.mpr ⟨zt7 (List.mem_of_getElem? (i := 201) (by decide +kernel)), (by decide +kernel)⟩
set_option maxRecDepth 20000 in
theorem qw1739 : Cond.selects RX11 yX11_saves yX11_saves ∈ wA := List.mem_filter.mpr ⟨zt7 (List.mem_of_getElem? (i := 202) (by decide +kernel)), (by decide +kernel)⟩
set_option maxRecDepth 20000 in
theorem qw1740 : Cond.code yX11_saves cX11_saves 2 (some .int) ∈ wA := List.mem_filter.mpr ⟨zt7 (List.mem_of_getElem? (i := 203) (by decide +kernel)), (by decide +kernel)⟩
set_option maxRecDepth 20000 in
theorem qw1741 : Cond.methodLink RL 205 yX11_rivals ∈ wA := List.mem_filter.mpr ⟨zt7 (List.mem_of_getElem? (i := 204) (by decide +kernel)), (by decide +kernel)⟩
set_option maxRecDepth 20000 in
theorem qw1742 : Cond.instanceMethod yX11_rivals ∈ wA := List.mem_filter.mpr ⟨zt7 (List.mem_of_getElem? (i := 205) (by decide +kernel)), (by decide +kernel)⟩
set_option maxRecDepth 20000 in
theorem qw1743 : Cond.selects RX11 yX11_rivals yX11_rivals ∈ wA := List.mem_filter.mpr ⟨zt7 (List.mem_of_getElem? (i := 206) (by decide +kernel)), (by decide +kernel)⟩
set_option maxRecDepth 20000 in
theorem qw1744 : Cond.code yX11_rivals cX11_rivals 4 (some .int) ∈ wA := List.mem_filter.mpr ⟨zt7 (List.mem_of_getElem? (i := 207) (by decide +kernel)), (by decide +kernel)⟩
set_option maxRecDepth 20000 in
theorem qw1745 : Cond.methodLink RL 209 yX11_affords ∈ wA := List.mem_filter.mpr ⟨zt7 (List.mem_of_getElem? (i := 208) (by decide +kernel)), (by decide +kernel)⟩
set_option maxRecDepth 20000 in
theorem qw1746 : Cond.instanceMethod yX11_affords ∈ wA := List.mem_filter.mpr ⟨zt7 (List.mem_of_getElem? (i := 209) (by decide +kernel)), (by decide +kernel)⟩
set_option maxRecDepth 20000 in
theorem qw1747 : Cond.selects RX11 yX11_affords yX11_affords ∈ wA := List.mem_filter.mpr ⟨zt7 (List.mem_of_getElem? (i := 210) (by decide +kernel)), (by decide +kernel)⟩
set_option maxRecDepth 20000 in
theorem qw1748 : Cond.code yX11_affords cX11_affords 3 (some .int) ∈ wA := List.mem_filter.mpr ⟨zt7 (List.mem_of_getElem? (i := 211) (by decide +kernel)), (by decide +kernel)⟩
set_option maxRecDepth 20000 in
theorem qw1749 : Cond.methodLink RL 213 yX11_told ∈ wA := List.mem_filter.mpr ⟨zt7 (List.mem_of_getElem? (i := 212) (by decide +kernel)), (by decide +kernel)⟩
set_option maxRecDepth 20000 in
theorem qw1750 : Cond.instanceMethod yX11_told ∈ wA := List.mem_filter.mpr ⟨zt7 (List.mem_of_getElem? (i := 213) (by decide +kernel)), (by decide +kernel)⟩
set_option maxRecDepth 20000 in
theorem qw1751 : Cond.selects RX11 yX11_told yX11_told ∈ wA := List.mem_filter.mpr ⟨zt7 (List.mem_of_getElem? (i := 214) (by decide +kernel)), (by decide +kernel)⟩
set_option maxRecDepth 20000 in
theorem qw1752 : Cond.code yX11_told cX11_told 5 (some .int) ∈ wA := List.mem_filter.mpr ⟨zt7 (List.mem_of_getElem? (i := 215) (by decide +kernel)), (by decide +kernel)⟩
set_option maxRecDepth 20000 in
theorem qw1753 : Cond.methodLink RL 217 yX11_image ∈ wA := List.mem_filter.mpr ⟨zt7 (List.mem_of_getElem? (i := 216) (by decide +kernel)), (by decide +kernel)⟩
set_option maxRecDepth 20000 in
theorem qw1754 : Cond.instanceMethod yX11_image ∈ wA := List.mem_filter.mpr ⟨zt7 (List.mem_of_getElem? (i := 217) (by decide +kernel)), (by decide +kernel)⟩
set_option maxRecDepth 20000 in
theorem qw1755 : Cond.selects RX11 yX11_image yX11_image ∈ wA := List.mem_filter.mpr ⟨zt7 (List.mem_of_getElem? (i := 218) (by decide +kernel)), (by decide +kernel)⟩
set_option maxRecDepth 20000 in
theorem qw1756 : Cond.code yX11_image cX11_image 2 (some .int) ∈ wA := List.mem_filter.mpr ⟨zt7 (List.mem_of_getElem? (i := 219) (by decide +kernel)), (by decide +kernel)⟩
set_option maxRecDepth 20000 in
theorem qw1757 : Cond.methodLink RL 221 yX11_back ∈ wA := List.mem_filter.mpr ⟨zt7 (List.mem_of_getElem? (i := 220) (by decide +kernel)), (by decide +kernel)⟩
set_option maxRecDepth 20000 in
theorem qw1758 : Cond.instanceMethod yX11_back ∈ wA := List.mem_filter.mpr ⟨zt7 (List.mem_of_getElem? (i := 221) (by decide +kernel)), (by decide +kernel)⟩
set_option maxRecDepth 20000 in
theorem qw1759 : Cond.selects RX11 yX11_back yX11_back ∈ wA := List.mem_filter.mpr ⟨zt7 (List.mem_of_getElem? (i := 222) (by decide +kernel)), (by decide +kernel)⟩
set_option maxRecDepth 20000 in
theorem qw1760 : Cond.code yX11_back cX11_back 2 (some .int) ∈ wA := List.mem_filter.mpr ⟨zt7 (List.mem_of_getElem? (i := 223) (by decide +kernel)), (by decide +kernel)⟩
set_option maxRecDepth 20000 in
theorem qw1761 : Cond.methodLink RL 225 yX11_count ∈ wA := List.mem_filter.mpr ⟨zt7 (List.mem_of_getElem? (i := 224) (by decide +kernel)), (by decide +kernel)⟩
set_option maxRecDepth 20000 in
theorem qw1762 : Cond.instanceMethod yX11_count ∈ wA := List.mem_filter.mpr ⟨zt7 (List.mem_of_getElem? (i := 225) (by decide +kernel)), (by decide +kernel)⟩
set_option maxRecDepth 20000 in
theorem qw1763 : Cond.selects RX11 yX11_count yX11_count ∈ wA := List.mem_filter.mpr ⟨zt7 (List.mem_of_getElem? (i := 226) (by decide +kernel)), (by decide +kernel)⟩
set_option maxRecDepth 20000 in
theorem qw1764 : Cond.code yX11_count cX11_count 2 (some .int) ∈ wA := List.mem_filter.mpr ⟨zt7 (List.mem_of_getElem? (i := 227) (by decide +kernel)), (by decide +kernel)⟩
set_option maxRecDepth 20000 in
theorem qw1765 : Cond.constantLong RL 105 4294967295 ∈ wA := List.mem_filter.mpr ⟨zt7 (List.mem_of_getElem? (i := 228) (by decide +kernel)), (by decide +kernel)⟩
theorem hd_L_bride : yL_bride.cls = RL ∧ yL_bride.cls ≠ "java/lang/invoke/MethodHandle" ∧ yL_bride.cls ≠ "java/lang/invoke/VarHandle" ∧ (parseMethodDescriptor yL_bride.desc).map (fun d => d.parameters.length) = some 4 := by decide +kernel
theorem hd_X0_init : yX0_init.cls = RX0 ∧ yX0_init.cls ≠ "java/lang/invoke/MethodHandle" ∧ yX0_init.cls ≠ "java/lang/invoke/VarHandle" ∧ (parseMethodDescriptor yX0_init.desc).map (fun d => d.parameters.length) = some 0 := by decide +kernel
theorem hd_X0_takeBack : yX0_takeBack.cls = RX0 ∧ yX0_takeBack.cls ≠ "java/lang/invoke/MethodHandle" ∧ yX0_takeBack.cls ≠ "java/lang/invoke/VarHandle" ∧ (parseMethodDescriptor yX0_takeBack.desc).map (fun d => d.parameters.length) = some 1 := by decide +kernel
theorem hd_X10_affords : yX10_affords.cls = RX10 ∧ yX10_affords.cls ≠ "java/lang/invoke/MethodHandle" ∧ yX10_affords.cls ≠ "java/lang/invoke/VarHandle" ∧ (parseMethodDescriptor yX10_affords.desc).map (fun d => d.parameters.length) = some 1 := by decide +kernel
theorem hd_X10_annul : yX10_annul.cls = RX10 ∧ yX10_annul.cls ≠ "java/lang/invoke/MethodHandle" ∧ yX10_annul.cls ≠ "java/lang/invoke/VarHandle" ∧ (parseMethodDescriptor yX10_annul.desc).map (fun d => d.parameters.length) = some 0 := by decide +kernel
theorem hd_X10_apart : yX10_apart.cls = RX10 ∧ yX10_apart.cls ≠ "java/lang/invoke/MethodHandle" ∧ yX10_apart.cls ≠ "java/lang/invoke/VarHandle" ∧ (parseMethodDescriptor yX10_apart.desc).map (fun d => d.parameters.length) = some 1 := by decide +kernel
theorem hd_X10_back : yX10_back.cls = RX10 ∧ yX10_back.cls ≠ "java/lang/invoke/MethodHandle" ∧ yX10_back.cls ≠ "java/lang/invoke/VarHandle" ∧ (parseMethodDescriptor yX10_back.desc).map (fun d => d.parameters.length) = some 0 := by decide +kernel
theorem hd_X10_belief : yX10_belief.cls = RX10 ∧ yX10_belief.cls ≠ "java/lang/invoke/MethodHandle" ∧ yX10_belief.cls ≠ "java/lang/invoke/VarHandle" ∧ (parseMethodDescriptor yX10_belief.desc).map (fun d => d.parameters.length) = some 2 := by decide +kernel
theorem hd_X10_bribes : yX10_bribes.cls = RX10 ∧ yX10_bribes.cls ≠ "java/lang/invoke/MethodHandle" ∧ yX10_bribes.cls ≠ "java/lang/invoke/VarHandle" ∧ (parseMethodDescriptor yX10_bribes.desc).map (fun d => d.parameters.length) = some 1 := by decide +kernel
theorem hd_X10_bride : yX10_bride.cls = RX10 ∧ yX10_bride.cls ≠ "java/lang/invoke/MethodHandle" ∧ yX10_bride.cls ≠ "java/lang/invoke/VarHandle" ∧ (parseMethodDescriptor yX10_bride.desc).map (fun d => d.parameters.length) = some 2 := by decide +kernel
theorem hd_X10_canPlay : yX10_canPlay.cls = RX10 ∧ yX10_canPlay.cls ≠ "java/lang/invoke/MethodHandle" ∧ yX10_canPlay.cls ≠ "java/lang/invoke/VarHandle" ∧ (parseMethodDescriptor yX10_canPlay.desc).map (fun d => d.parameters.length) = some 3 := by decide +kernel
theorem hd_X10_cheapest : yX10_cheapest.cls = RX10 ∧ yX10_cheapest.cls ≠ "java/lang/invoke/MethodHandle" ∧ yX10_cheapest.cls ≠ "java/lang/invoke/VarHandle" ∧ (parseMethodDescriptor yX10_cheapest.desc).map (fun d => d.parameters.length) = some 2 := by decide +kernel
theorem hd_X10_chooses : yX10_chooses.cls = RX10 ∧ yX10_chooses.cls ≠ "java/lang/invoke/MethodHandle" ∧ yX10_chooses.cls ≠ "java/lang/invoke/VarHandle" ∧ (parseMethodDescriptor yX10_chooses.desc).map (fun d => d.parameters.length) = some 1 := by decide +kernel
theorem hd_X10_count : yX10_count.cls = RX10 ∧ yX10_count.cls ≠ "java/lang/invoke/MethodHandle" ∧ yX10_count.cls ≠ "java/lang/invoke/VarHandle" ∧ (parseMethodDescriptor yX10_count.desc).map (fun d => d.parameters.length) = some 1 := by decide +kernel
theorem hd_X10_decades : yX10_decades.cls = RX10 ∧ yX10_decades.cls ≠ "java/lang/invoke/MethodHandle" ∧ yX10_decades.cls ≠ "java/lang/invoke/VarHandle" ∧ (parseMethodDescriptor yX10_decades.desc).map (fun d => d.parameters.length) = some 2 := by decide +kernel
theorem hd_X10_end : yX10_end.cls = RX10 ∧ yX10_end.cls ≠ "java/lang/invoke/MethodHandle" ∧ yX10_end.cls ≠ "java/lang/invoke/VarHandle" ∧ (parseMethodDescriptor yX10_end.desc).map (fun d => d.parameters.length) = some 1 := by decide +kernel
theorem hd_X10_fault : yX10_fault.cls = RX10 ∧ yX10_fault.cls ≠ "java/lang/invoke/MethodHandle" ∧ yX10_fault.cls ≠ "java/lang/invoke/VarHandle" ∧ (parseMethodDescriptor yX10_fault.desc).map (fun d => d.parameters.length) = some 1 := by decide +kernel
theorem hd_X10_feed : yX10_feed.cls = RX10 ∧ yX10_feed.cls ≠ "java/lang/invoke/MethodHandle" ∧ yX10_feed.cls ≠ "java/lang/invoke/VarHandle" ∧ (parseMethodDescriptor yX10_feed.desc).map (fun d => d.parameters.length) = some 5 := by decide +kernel
theorem hd_X10_fits : yX10_fits.cls = RX10 ∧ yX10_fits.cls ≠ "java/lang/invoke/MethodHandle" ∧ yX10_fits.cls ≠ "java/lang/invoke/VarHandle" ∧ (parseMethodDescriptor yX10_fits.desc).map (fun d => d.parameters.length) = some 1 := by decide +kernel
theorem hd_X10_flattery : yX10_flattery.cls = RX10 ∧ yX10_flattery.cls ≠ "java/lang/invoke/MethodHandle" ∧ yX10_flattery.cls ≠ "java/lang/invoke/VarHandle" ∧ (parseMethodDescriptor yX10_flattery.desc).map (fun d => d.parameters.length) = some 2 := by decide +kernel
theorem hd_X10_game : yX10_game.cls = RX10 ∧ yX10_game.cls ≠ "java/lang/invoke/MethodHandle" ∧ yX10_game.cls ≠ "java/lang/invoke/VarHandle" ∧ (parseMethodDescriptor yX10_game.desc).map (fun d => d.parameters.length) = some 6 := by decide +kernel
theorem hd_X10_hasCourt : yX10_hasCourt.cls = RX10 ∧ yX10_hasCourt.cls ≠ "java/lang/invoke/MethodHandle" ∧ yX10_hasCourt.cls ≠ "java/lang/invoke/VarHandle" ∧ (parseMethodDescriptor yX10_hasCourt.desc).map (fun d => d.parameters.length) = some 0 := by decide +kernel
theorem hd_X10_heads : yX10_heads.cls = RX10 ∧ yX10_heads.cls ≠ "java/lang/invoke/MethodHandle" ∧ yX10_heads.cls ≠ "java/lang/invoke/VarHandle" ∧ (parseMethodDescriptor yX10_heads.desc).map (fun d => d.parameters.length) = some 3 := by decide +kernel
theorem hd_X10_image : yX10_image.cls = RX10 ∧ yX10_image.cls ≠ "java/lang/invoke/MethodHandle" ∧ yX10_image.cls ≠ "java/lang/invoke/VarHandle" ∧ (parseMethodDescriptor yX10_image.desc).map (fun d => d.parameters.length) = some 0 := by decide +kernel
theorem hd_X10_init : yX10_init.cls = RX10 ∧ yX10_init.cls ≠ "java/lang/invoke/MethodHandle" ∧ yX10_init.cls ≠ "java/lang/invoke/VarHandle" ∧ (parseMethodDescriptor yX10_init.desc).map (fun d => d.parameters.length) = some 0 := by decide +kernel
theorem hd_X10_isBride : yX10_isBride.cls = RX10 ∧ yX10_isBride.cls ≠ "java/lang/invoke/MethodHandle" ∧ yX10_isBride.cls ≠ "java/lang/invoke/VarHandle" ∧ (parseMethodDescriptor yX10_isBride.desc).map (fun d => d.parameters.length) = some 1 := by decide +kernel
theorem hd_X10_isDigit : yX10_isDigit.cls = RX10 ∧ yX10_isDigit.cls ≠ "java/lang/invoke/MethodHandle" ∧ yX10_isDigit.cls ≠ "java/lang/invoke/VarHandle" ∧ (parseMethodDescriptor yX10_isDigit.desc).map (fun d => d.parameters.length) = some 1 := by decide +kernel
theorem hd_X10_isPainter : yX10_isPainter.cls = RX10 ∧ yX10_isPainter.cls ≠ "java/lang/invoke/MethodHandle" ∧ yX10_isPainter.cls ≠ "java/lang/invoke/VarHandle" ∧ (parseMethodDescriptor yX10_isPainter.desc).map (fun d => d.parameters.length) = some 1 := by decide +kernel
theorem hd_X10_law : yX10_law.cls = RX10 ∧ yX10_law.cls ≠ "java/lang/invoke/MethodHandle" ∧ yX10_law.cls ≠ "java/lang/invoke/VarHandle" ∧ (parseMethodDescriptor yX10_law.desc).map (fun d => d.parameters.length) = some 1 := by decide +kernel
theorem hd_X10_letter : yX10_letter.cls = RX10 ∧ yX10_letter.cls ≠ "java/lang/invoke/MethodHandle" ∧ yX10_letter.cls ≠ "java/lang/invoke/VarHandle" ∧ (parseMethodDescriptor yX10_letter.desc).map (fun d => d.parameters.length) = some 1 := by decide +kernel
theorem hd_X10_likely : yX10_likely.cls = RX10 ∧ yX10_likely.cls ≠ "java/lang/invoke/MethodHandle" ∧ yX10_likely.cls ≠ "java/lang/invoke/VarHandle" ∧ (parseMethodDescriptor yX10_likely.desc).map (fun d => d.parameters.length) = some 2 := by decide +kernel
theorem hd_X10_looks : yX10_looks.cls = RX10 ∧ yX10_looks.cls ≠ "java/lang/invoke/MethodHandle" ∧ yX10_looks.cls ≠ "java/lang/invoke/VarHandle" ∧ (parseMethodDescriptor yX10_looks.desc).map (fun d => d.parameters.length) = some 1 := by decide +kernel
theorem hd_X10_matched : yX10_matched.cls = RX10 ∧ yX10_matched.cls ≠ "java/lang/invoke/MethodHandle" ∧ yX10_matched.cls ≠ "java/lang/invoke/VarHandle" ∧ (parseMethodDescriptor yX10_matched.desc).map (fun d => d.parameters.length) = some 1 := by decide +kernel
theorem hd_X10_months : yX10_months.cls = RX10 ∧ yX10_months.cls ≠ "java/lang/invoke/MethodHandle" ∧ yX10_months.cls ≠ "java/lang/invoke/VarHandle" ∧ (parseMethodDescriptor yX10_months.desc).map (fun d => d.parameters.length) = some 1 := by decide +kernel
theorem hd_X10_most : yX10_most.cls = RX10 ∧ yX10_most.cls ≠ "java/lang/invoke/MethodHandle" ∧ yX10_most.cls ≠ "java/lang/invoke/VarHandle" ∧ (parseMethodDescriptor yX10_most.desc).map (fun d => d.parameters.length) = some 1 := by decide +kernel
theorem hd_X10_next : yX10_next.cls = RX10 ∧ yX10_next.cls ≠ "java/lang/invoke/MethodHandle" ∧ yX10_next.cls ≠ "java/lang/invoke/VarHandle" ∧ (parseMethodDescriptor yX10_next.desc).map (fun d => d.parameters.length) = some 1 := by decide +kernel
theorem hd_X10_paint : yX10_paint.cls = RX10 ∧ yX10_paint.cls ≠ "java/lang/invoke/MethodHandle" ∧ yX10_paint.cls ≠ "java/lang/invoke/VarHandle" ∧ (parseMethodDescriptor yX10_paint.desc).map (fun d => d.parameters.length) = some 2 := by decide +kernel
theorem hd_X10_painter : yX10_painter.cls = RX10 ∧ yX10_painter.cls ≠ "java/lang/invoke/MethodHandle" ∧ yX10_painter.cls ≠ "java/lang/invoke/VarHandle" ∧ (parseMethodDescriptor yX10_painter.desc).map (fun d => d.parameters.length) = some 2 := by decide +kernel
theorem hd_X10_pay : yX10_pay.cls = RX10 ∧ yX10_pay.cls ≠ "java/lang/invoke/MethodHandle" ∧ yX10_pay.cls ≠ "java/lang/invoke/VarHandle" ∧ (parseMethodDescriptor yX10_pay.desc).map (fun d => d.parameters.length) = some 2 := by decide +kernel
theorem hd_X10_paysToHear : yX10_paysToHear.cls = RX10 ∧ yX10_paysToHear.cls ≠ "java/lang/invoke/MethodHandle" ∧ yX10_paysToHear.cls ≠ "java/lang/invoke/VarHandle" ∧ (parseMethodDescriptor yX10_paysToHear.desc).map (fun d => d.parameters.length) = some 3 := by decide +kernel
theorem hd_X10_portrait : yX10_portrait.cls = RX10 ∧ yX10_portrait.cls ≠ "java/lang/invoke/MethodHandle" ∧ yX10_portrait.cls ≠ "java/lang/invoke/VarHandle" ∧ (parseMethodDescriptor yX10_portrait.desc).map (fun d => d.parameters.length) = some 2 := by decide +kernel
theorem hd_X10_refuse : yX10_refuse.cls = RX10 ∧ yX10_refuse.cls ≠ "java/lang/invoke/MethodHandle" ∧ yX10_refuse.cls ≠ "java/lang/invoke/VarHandle" ∧ (parseMethodDescriptor yX10_refuse.desc).map (fun d => d.parameters.length) = some 1 := by decide +kernel
theorem hd_X10_rests : yX10_rests.cls = RX10 ∧ yX10_rests.cls ≠ "java/lang/invoke/MethodHandle" ∧ yX10_rests.cls ≠ "java/lang/invoke/VarHandle" ∧ (parseMethodDescriptor yX10_rests.desc).map (fun d => d.parameters.length) = some 4 := by decide +kernel
theorem hd_X10_rivals : yX10_rivals.cls = RX10 ∧ yX10_rivals.cls ≠ "java/lang/invoke/MethodHandle" ∧ yX10_rivals.cls ≠ "java/lang/invoke/VarHandle" ∧ (parseMethodDescriptor yX10_rivals.desc).map (fun d => d.parameters.length) = some 1 := by decide +kernel
theorem hd_X10_rule : yX10_rule.cls = RX10 ∧ yX10_rule.cls ≠ "java/lang/invoke/MethodHandle" ∧ yX10_rule.cls ≠ "java/lang/invoke/VarHandle" ∧ (parseMethodDescriptor yX10_rule.desc).map (fun d => d.parameters.length) = some 1 := by decide +kernel
theorem hd_X10_saves : yX10_saves.cls = RX10 ∧ yX10_saves.cls ≠ "java/lang/invoke/MethodHandle" ∧ yX10_saves.cls ≠ "java/lang/invoke/VarHandle" ∧ (parseMethodDescriptor yX10_saves.desc).map (fun d => d.parameters.length) = some 1 := by decide +kernel
theorem hd_X10_seen : yX10_seen.cls = RX10 ∧ yX10_seen.cls ≠ "java/lang/invoke/MethodHandle" ∧ yX10_seen.cls ≠ "java/lang/invoke/VarHandle" ∧ (parseMethodDescriptor yX10_seen.desc).map (fun d => d.parameters.length) = some 1 := by decide +kernel
theorem hd_X10_shoe : yX10_shoe.cls = RX10 ∧ yX10_shoe.cls ≠ "java/lang/invoke/MethodHandle" ∧ yX10_shoe.cls ≠ "java/lang/invoke/VarHandle" ∧ (parseMethodDescriptor yX10_shoe.desc).map (fun d => d.parameters.length) = some 1 := by decide +kernel
theorem hd_X10_shown : yX10_shown.cls = RX10 ∧ yX10_shown.cls ≠ "java/lang/invoke/MethodHandle" ∧ yX10_shown.cls ≠ "java/lang/invoke/VarHandle" ∧ (parseMethodDescriptor yX10_shown.desc).map (fun d => d.parameters.length) = some 3 := by decide +kernel
theorem hd_X10_status : yX10_status.cls = RX10 ∧ yX10_status.cls ≠ "java/lang/invoke/MethodHandle" ∧ yX10_status.cls ≠ "java/lang/invoke/VarHandle" ∧ (parseMethodDescriptor yX10_status.desc).map (fun d => d.parameters.length) = some 1 := by decide +kernel
theorem hd_X10_sure : yX10_sure.cls = RX10 ∧ yX10_sure.cls ≠ "java/lang/invoke/MethodHandle" ∧ yX10_sure.cls ≠ "java/lang/invoke/VarHandle" ∧ (parseMethodDescriptor yX10_sure.desc).map (fun d => d.parameters.length) = some 2 := by decide +kernel
theorem hd_X10_text : yX10_text.cls = RX10 ∧ yX10_text.cls ≠ "java/lang/invoke/MethodHandle" ∧ yX10_text.cls ≠ "java/lang/invoke/VarHandle" ∧ (parseMethodDescriptor yX10_text.desc).map (fun d => d.parameters.length) = some 1 := by decide +kernel
theorem hd_X10_threaten : yX10_threaten.cls = RX10 ∧ yX10_threaten.cls ≠ "java/lang/invoke/MethodHandle" ∧ yX10_threaten.cls ≠ "java/lang/invoke/VarHandle" ∧ (parseMethodDescriptor yX10_threaten.desc).map (fun d => d.parameters.length) = some 1 := by decide +kernel
theorem hd_X10_told : yX10_told.cls = RX10 ∧ yX10_told.cls ≠ "java/lang/invoke/MethodHandle" ∧ yX10_told.cls ≠ "java/lang/invoke/VarHandle" ∧ (parseMethodDescriptor yX10_told.desc).map (fun d => d.parameters.length) = some 1 := by decide +kernel
theorem hd_X10_truth : yX10_truth.cls = RX10 ∧ yX10_truth.cls ≠ "java/lang/invoke/MethodHandle" ∧ yX10_truth.cls ≠ "java/lang/invoke/VarHandle" ∧ (parseMethodDescriptor yX10_truth.desc).map (fun d => d.parameters.length) = some 2 := by decide +kernel
theorem hd_X10_undo : yX10_undo.cls = RX10 ∧ yX10_undo.cls ≠ "java/lang/invoke/MethodHandle" ∧ yX10_undo.cls ≠ "java/lang/invoke/VarHandle" ∧ (parseMethodDescriptor yX10_undo.desc).map (fun d => d.parameters.length) = some 0 := by decide +kernel
theorem hd_X10_wed : yX10_wed.cls = RX10 ∧ yX10_wed.cls ≠ "java/lang/invoke/MethodHandle" ∧ yX10_wed.cls ≠ "java/lang/invoke/VarHandle" ∧ (parseMethodDescriptor yX10_wed.desc).map (fun d => d.parameters.length) = some 1 := by decide +kernel
theorem hd_X10_whose : yX10_whose.cls = RX10 ∧ yX10_whose.cls ≠ "java/lang/invoke/MethodHandle" ∧ yX10_whose.cls ≠ "java/lang/invoke/VarHandle" ∧ (parseMethodDescriptor yX10_whose.desc).map (fun d => d.parameters.length) = some 2 := by decide +kernel
theorem hd_X10_worth : yX10_worth.cls = RX10 ∧ yX10_worth.cls ≠ "java/lang/invoke/MethodHandle" ∧ yX10_worth.cls ≠ "java/lang/invoke/VarHandle" ∧ (parseMethodDescriptor yX10_worth.desc).map (fun d => d.parameters.length) = some 2 := by decide +kernel
theorem hd_X11_affords : yX11_affords.cls = RX11 ∧ yX11_affords.cls ≠ "java/lang/invoke/MethodHandle" ∧ yX11_affords.cls ≠ "java/lang/invoke/VarHandle" ∧ (parseMethodDescriptor yX11_affords.desc).map (fun d => d.parameters.length) = some 1 := by decide +kernel
theorem hd_X11_annul : yX11_annul.cls = RX11 ∧ yX11_annul.cls ≠ "java/lang/invoke/MethodHandle" ∧ yX11_annul.cls ≠ "java/lang/invoke/VarHandle" ∧ (parseMethodDescriptor yX11_annul.desc).map (fun d => d.parameters.length) = some 0 := by decide +kernel
theorem hd_X11_apart : yX11_apart.cls = RX11 ∧ yX11_apart.cls ≠ "java/lang/invoke/MethodHandle" ∧ yX11_apart.cls ≠ "java/lang/invoke/VarHandle" ∧ (parseMethodDescriptor yX11_apart.desc).map (fun d => d.parameters.length) = some 1 := by decide +kernel
theorem hd_X11_areBoth : yX11_areBoth.cls = RX11 ∧ yX11_areBoth.cls ≠ "java/lang/invoke/MethodHandle" ∧ yX11_areBoth.cls ≠ "java/lang/invoke/VarHandle" ∧ (parseMethodDescriptor yX11_areBoth.desc).map (fun d => d.parameters.length) = some 2 := by decide +kernel
theorem hd_X11_areTwo : yX11_areTwo.cls = RX11 ∧ yX11_areTwo.cls ≠ "java/lang/invoke/MethodHandle" ∧ yX11_areTwo.cls ≠ "java/lang/invoke/VarHandle" ∧ (parseMethodDescriptor yX11_areTwo.desc).map (fun d => d.parameters.length) = some 3 := by decide +kernel
theorem hd_X11_atEnd : yX11_atEnd.cls = RX11 ∧ yX11_atEnd.cls ≠ "java/lang/invoke/MethodHandle" ∧ yX11_atEnd.cls ≠ "java/lang/invoke/VarHandle" ∧ (parseMethodDescriptor yX11_atEnd.desc).map (fun d => d.parameters.length) = some 0 := by decide +kernel
theorem hd_X11_back : yX11_back.cls = RX11 ∧ yX11_back.cls ≠ "java/lang/invoke/MethodHandle" ∧ yX11_back.cls ≠ "java/lang/invoke/VarHandle" ∧ (parseMethodDescriptor yX11_back.desc).map (fun d => d.parameters.length) = some 0 := by decide +kernel
theorem hd_X11_bad : yX11_bad.cls = RX11 ∧ yX11_bad.cls ≠ "java/lang/invoke/MethodHandle" ∧ yX11_bad.cls ≠ "java/lang/invoke/VarHandle" ∧ (parseMethodDescriptor yX11_bad.desc).map (fun d => d.parameters.length) = some 0 := by decide +kernel
theorem hd_X11_belief : yX11_belief.cls = RX11 ∧ yX11_belief.cls ≠ "java/lang/invoke/MethodHandle" ∧ yX11_belief.cls ≠ "java/lang/invoke/VarHandle" ∧ (parseMethodDescriptor yX11_belief.desc).map (fun d => d.parameters.length) = some 2 := by decide +kernel
theorem hd_X11_bribes : yX11_bribes.cls = RX11 ∧ yX11_bribes.cls ≠ "java/lang/invoke/MethodHandle" ∧ yX11_bribes.cls ≠ "java/lang/invoke/VarHandle" ∧ (parseMethodDescriptor yX11_bribes.desc).map (fun d => d.parameters.length) = some 1 := by decide +kernel
theorem hd_X11_bride : yX11_bride.cls = RX11 ∧ yX11_bride.cls ≠ "java/lang/invoke/MethodHandle" ∧ yX11_bride.cls ≠ "java/lang/invoke/VarHandle" ∧ (parseMethodDescriptor yX11_bride.desc).map (fun d => d.parameters.length) = some 2 := by decide +kernel
theorem hd_X11_byteOf : yX11_byteOf.cls = RX11 ∧ yX11_byteOf.cls ≠ "java/lang/invoke/MethodHandle" ∧ yX11_byteOf.cls ≠ "java/lang/invoke/VarHandle" ∧ (parseMethodDescriptor yX11_byteOf.desc).map (fun d => d.parameters.length) = some 6 := by decide +kernel
theorem hd_X11_cheapest : yX11_cheapest.cls = RX11 ∧ yX11_cheapest.cls ≠ "java/lang/invoke/MethodHandle" ∧ yX11_cheapest.cls ≠ "java/lang/invoke/VarHandle" ∧ (parseMethodDescriptor yX11_cheapest.desc).map (fun d => d.parameters.length) = some 2 := by decide +kernel
theorem hd_X11_chooses : yX11_chooses.cls = RX11 ∧ yX11_chooses.cls ≠ "java/lang/invoke/MethodHandle" ∧ yX11_chooses.cls ≠ "java/lang/invoke/VarHandle" ∧ (parseMethodDescriptor yX11_chooses.desc).map (fun d => d.parameters.length) = some 1 := by decide +kernel
theorem hd_X11_clause : yX11_clause.cls = RX11 ∧ yX11_clause.cls ≠ "java/lang/invoke/MethodHandle" ∧ yX11_clause.cls ≠ "java/lang/invoke/VarHandle" ∧ (parseMethodDescriptor yX11_clause.desc).map (fun d => d.parameters.length) = some 0 := by decide +kernel
theorem hd_X11_count : yX11_count.cls = RX11 ∧ yX11_count.cls ≠ "java/lang/invoke/MethodHandle" ∧ yX11_count.cls ≠ "java/lang/invoke/VarHandle" ∧ (parseMethodDescriptor yX11_count.desc).map (fun d => d.parameters.length) = some 1 := by decide +kernel
theorem hd_X11_decades : yX11_decades.cls = RX11 ∧ yX11_decades.cls ≠ "java/lang/invoke/MethodHandle" ∧ yX11_decades.cls ≠ "java/lang/invoke/VarHandle" ∧ (parseMethodDescriptor yX11_decades.desc).map (fun d => d.parameters.length) = some 2 := by decide +kernel
theorem hd_X11_end : yX11_end.cls = RX11 ∧ yX11_end.cls ≠ "java/lang/invoke/MethodHandle" ∧ yX11_end.cls ≠ "java/lang/invoke/VarHandle" ∧ (parseMethodDescriptor yX11_end.desc).map (fun d => d.parameters.length) = some 1 := by decide +kernel
theorem hd_X11_fault : yX11_fault.cls = RX11 ∧ yX11_fault.cls ≠ "java/lang/invoke/MethodHandle" ∧ yX11_fault.cls ≠ "java/lang/invoke/VarHandle" ∧ (parseMethodDescriptor yX11_fault.desc).map (fun d => d.parameters.length) = some 1 := by decide +kernel
theorem hd_X11_feed : yX11_feed.cls = RX11 ∧ yX11_feed.cls ≠ "java/lang/invoke/MethodHandle" ∧ yX11_feed.cls ≠ "java/lang/invoke/VarHandle" ∧ (parseMethodDescriptor yX11_feed.desc).map (fun d => d.parameters.length) = some 5 := by decide +kernel
theorem hd_X11_fits : yX11_fits.cls = RX11 ∧ yX11_fits.cls ≠ "java/lang/invoke/MethodHandle" ∧ yX11_fits.cls ≠ "java/lang/invoke/VarHandle" ∧ (parseMethodDescriptor yX11_fits.desc).map (fun d => d.parameters.length) = some 1 := by decide +kernel
theorem hd_X11_flattery : yX11_flattery.cls = RX11 ∧ yX11_flattery.cls ≠ "java/lang/invoke/MethodHandle" ∧ yX11_flattery.cls ≠ "java/lang/invoke/VarHandle" ∧ (parseMethodDescriptor yX11_flattery.desc).map (fun d => d.parameters.length) = some 2 := by decide +kernel
theorem hd_X11_game : yX11_game.cls = RX11 ∧ yX11_game.cls ≠ "java/lang/invoke/MethodHandle" ∧ yX11_game.cls ≠ "java/lang/invoke/VarHandle" ∧ (parseMethodDescriptor yX11_game.desc).map (fun d => d.parameters.length) = some 6 := by decide +kernel
theorem hd_X11_heads : yX11_heads.cls = RX11 ∧ yX11_heads.cls ≠ "java/lang/invoke/MethodHandle" ∧ yX11_heads.cls ≠ "java/lang/invoke/VarHandle" ∧ (parseMethodDescriptor yX11_heads.desc).map (fun d => d.parameters.length) = some 3 := by decide +kernel
theorem hd_X11_here : yX11_here.cls = RX11 ∧ yX11_here.cls ≠ "java/lang/invoke/MethodHandle" ∧ yX11_here.cls ≠ "java/lang/invoke/VarHandle" ∧ (parseMethodDescriptor yX11_here.desc).map (fun d => d.parameters.length) = some 0 := by decide +kernel
theorem hd_X11_image : yX11_image.cls = RX11 ∧ yX11_image.cls ≠ "java/lang/invoke/MethodHandle" ∧ yX11_image.cls ≠ "java/lang/invoke/VarHandle" ∧ (parseMethodDescriptor yX11_image.desc).map (fun d => d.parameters.length) = some 0 := by decide +kernel
theorem hd_X11_in : yX11_in.cls = RX11 ∧ yX11_in.cls ≠ "java/lang/invoke/MethodHandle" ∧ yX11_in.cls ≠ "java/lang/invoke/VarHandle" ∧ (parseMethodDescriptor yX11_in.desc).map (fun d => d.parameters.length) = some 3 := by decide +kernel
theorem hd_X11_init : yX11_init.cls = RX11 ∧ yX11_init.cls ≠ "java/lang/invoke/MethodHandle" ∧ yX11_init.cls ≠ "java/lang/invoke/VarHandle" ∧ (parseMethodDescriptor yX11_init.desc).map (fun d => d.parameters.length) = some 0 := by decide +kernel
theorem hd_X11_isBride : yX11_isBride.cls = RX11 ∧ yX11_isBride.cls ≠ "java/lang/invoke/MethodHandle" ∧ yX11_isBride.cls ≠ "java/lang/invoke/VarHandle" ∧ (parseMethodDescriptor yX11_isBride.desc).map (fun d => d.parameters.length) = some 1 := by decide +kernel
theorem hd_X11_isPainter : yX11_isPainter.cls = RX11 ∧ yX11_isPainter.cls ≠ "java/lang/invoke/MethodHandle" ∧ yX11_isPainter.cls ≠ "java/lang/invoke/VarHandle" ∧ (parseMethodDescriptor yX11_isPainter.desc).map (fun d => d.parameters.length) = some 1 := by decide +kernel
theorem hd_X11_isRefused : yX11_isRefused.cls = RX11 ∧ yX11_isRefused.cls ≠ "java/lang/invoke/MethodHandle" ∧ yX11_isRefused.cls ≠ "java/lang/invoke/VarHandle" ∧ (parseMethodDescriptor yX11_isRefused.desc).map (fun d => d.parameters.length) = some 1 := by decide +kernel
theorem hd_X11_isTold : yX11_isTold.cls = RX11 ∧ yX11_isTold.cls ≠ "java/lang/invoke/MethodHandle" ∧ yX11_isTold.cls ≠ "java/lang/invoke/VarHandle" ∧ (parseMethodDescriptor yX11_isTold.desc).map (fun d => d.parameters.length) = some 3 := by decide +kernel
theorem hd_X11_law : yX11_law.cls = RX11 ∧ yX11_law.cls ≠ "java/lang/invoke/MethodHandle" ∧ yX11_law.cls ≠ "java/lang/invoke/VarHandle" ∧ (parseMethodDescriptor yX11_law.desc).map (fun d => d.parameters.length) = some 1 := by decide +kernel
theorem hd_X11_letter : yX11_letter.cls = RX11 ∧ yX11_letter.cls ≠ "java/lang/invoke/MethodHandle" ∧ yX11_letter.cls ≠ "java/lang/invoke/VarHandle" ∧ (parseMethodDescriptor yX11_letter.desc).map (fun d => d.parameters.length) = some 1 := by decide +kernel
theorem hd_X11_likely : yX11_likely.cls = RX11 ∧ yX11_likely.cls ≠ "java/lang/invoke/MethodHandle" ∧ yX11_likely.cls ≠ "java/lang/invoke/VarHandle" ∧ (parseMethodDescriptor yX11_likely.desc).map (fun d => d.parameters.length) = some 2 := by decide +kernel
theorem hd_X11_look : yX11_look.cls = RX11 ∧ yX11_look.cls ≠ "java/lang/invoke/MethodHandle" ∧ yX11_look.cls ≠ "java/lang/invoke/VarHandle" ∧ (parseMethodDescriptor yX11_look.desc).map (fun d => d.parameters.length) = some 0 := by decide +kernel
theorem hd_X11_looks : yX11_looks.cls = RX11 ∧ yX11_looks.cls ≠ "java/lang/invoke/MethodHandle" ∧ yX11_looks.cls ≠ "java/lang/invoke/VarHandle" ∧ (parseMethodDescriptor yX11_looks.desc).map (fun d => d.parameters.length) = some 1 := by decide +kernel
theorem hd_X11_matched : yX11_matched.cls = RX11 ∧ yX11_matched.cls ≠ "java/lang/invoke/MethodHandle" ∧ yX11_matched.cls ≠ "java/lang/invoke/VarHandle" ∧ (parseMethodDescriptor yX11_matched.desc).map (fun d => d.parameters.length) = some 1 := by decide +kernel
theorem hd_X11_months : yX11_months.cls = RX11 ∧ yX11_months.cls ≠ "java/lang/invoke/MethodHandle" ∧ yX11_months.cls ≠ "java/lang/invoke/VarHandle" ∧ (parseMethodDescriptor yX11_months.desc).map (fun d => d.parameters.length) = some 1 := by decide +kernel
theorem hd_X11_most : yX11_most.cls = RX11 ∧ yX11_most.cls ≠ "java/lang/invoke/MethodHandle" ∧ yX11_most.cls ≠ "java/lang/invoke/VarHandle" ∧ (parseMethodDescriptor yX11_most.desc).map (fun d => d.parameters.length) = some 1 := by decide +kernel
theorem hd_X11_next : yX11_next.cls = RX11 ∧ yX11_next.cls ≠ "java/lang/invoke/MethodHandle" ∧ yX11_next.cls ≠ "java/lang/invoke/VarHandle" ∧ (parseMethodDescriptor yX11_next.desc).map (fun d => d.parameters.length) = some 1 := by decide +kernel
theorem hd_X11_open : yX11_open.cls = RX11 ∧ yX11_open.cls ≠ "java/lang/invoke/MethodHandle" ∧ yX11_open.cls ≠ "java/lang/invoke/VarHandle" ∧ (parseMethodDescriptor yX11_open.desc).map (fun d => d.parameters.length) = some 1 := by decide +kernel
theorem hd_X11_paint : yX11_paint.cls = RX11 ∧ yX11_paint.cls ≠ "java/lang/invoke/MethodHandle" ∧ yX11_paint.cls ≠ "java/lang/invoke/VarHandle" ∧ (parseMethodDescriptor yX11_paint.desc).map (fun d => d.parameters.length) = some 2 := by decide +kernel
theorem hd_X11_painter : yX11_painter.cls = RX11 ∧ yX11_painter.cls ≠ "java/lang/invoke/MethodHandle" ∧ yX11_painter.cls ≠ "java/lang/invoke/VarHandle" ∧ (parseMethodDescriptor yX11_painter.desc).map (fun d => d.parameters.length) = some 2 := by decide +kernel
theorem hd_X11_pay : yX11_pay.cls = RX11 ∧ yX11_pay.cls ≠ "java/lang/invoke/MethodHandle" ∧ yX11_pay.cls ≠ "java/lang/invoke/VarHandle" ∧ (parseMethodDescriptor yX11_pay.desc).map (fun d => d.parameters.length) = some 2 := by decide +kernel
theorem hd_X11_portrait : yX11_portrait.cls = RX11 ∧ yX11_portrait.cls ≠ "java/lang/invoke/MethodHandle" ∧ yX11_portrait.cls ≠ "java/lang/invoke/VarHandle" ∧ (parseMethodDescriptor yX11_portrait.desc).map (fun d => d.parameters.length) = some 2 := by decide +kernel
theorem hd_X11_readCourt : yX11_readCourt.cls = RX11 ∧ yX11_readCourt.cls ≠ "java/lang/invoke/MethodHandle" ∧ yX11_readCourt.cls ≠ "java/lang/invoke/VarHandle" ∧ (parseMethodDescriptor yX11_readCourt.desc).map (fun d => d.parameters.length) = some 0 := by decide +kernel
theorem hd_X11_readLaw : yX11_readLaw.cls = RX11 ∧ yX11_readLaw.cls ≠ "java/lang/invoke/MethodHandle" ∧ yX11_readLaw.cls ≠ "java/lang/invoke/VarHandle" ∧ (parseMethodDescriptor yX11_readLaw.desc).map (fun d => d.parameters.length) = some 1 := by decide +kernel
theorem hd_X11_rests : yX11_rests.cls = RX11 ∧ yX11_rests.cls ≠ "java/lang/invoke/MethodHandle" ∧ yX11_rests.cls ≠ "java/lang/invoke/VarHandle" ∧ (parseMethodDescriptor yX11_rests.desc).map (fun d => d.parameters.length) = some 4 := by decide +kernel
theorem hd_X11_rivals : yX11_rivals.cls = RX11 ∧ yX11_rivals.cls ≠ "java/lang/invoke/MethodHandle" ∧ yX11_rivals.cls ≠ "java/lang/invoke/VarHandle" ∧ (parseMethodDescriptor yX11_rivals.desc).map (fun d => d.parameters.length) = some 1 := by decide +kernel
theorem hd_X11_rule : yX11_rule.cls = RX11 ∧ yX11_rule.cls ≠ "java/lang/invoke/MethodHandle" ∧ yX11_rule.cls ≠ "java/lang/invoke/VarHandle" ∧ (parseMethodDescriptor yX11_rule.desc).map (fun d => d.parameters.length) = some 1 := by decide +kernel
theorem hd_X11_saves : yX11_saves.cls = RX11 ∧ yX11_saves.cls ≠ "java/lang/invoke/MethodHandle" ∧ yX11_saves.cls ≠ "java/lang/invoke/VarHandle" ∧ (parseMethodDescriptor yX11_saves.desc).map (fun d => d.parameters.length) = some 1 := by decide +kernel
theorem hd_X11_seen : yX11_seen.cls = RX11 ∧ yX11_seen.cls ≠ "java/lang/invoke/MethodHandle" ∧ yX11_seen.cls ≠ "java/lang/invoke/VarHandle" ∧ (parseMethodDescriptor yX11_seen.desc).map (fun d => d.parameters.length) = some 1 := by decide +kernel
theorem hd_X11_shoe : yX11_shoe.cls = RX11 ∧ yX11_shoe.cls ≠ "java/lang/invoke/MethodHandle" ∧ yX11_shoe.cls ≠ "java/lang/invoke/VarHandle" ∧ (parseMethodDescriptor yX11_shoe.desc).map (fun d => d.parameters.length) = some 1 := by decide +kernel
theorem hd_X11_shown : yX11_shown.cls = RX11 ∧ yX11_shown.cls ≠ "java/lang/invoke/MethodHandle" ∧ yX11_shown.cls ≠ "java/lang/invoke/VarHandle" ∧ (parseMethodDescriptor yX11_shown.desc).map (fun d => d.parameters.length) = some 3 := by decide +kernel
theorem hd_X11_status : yX11_status.cls = RX11 ∧ yX11_status.cls ≠ "java/lang/invoke/MethodHandle" ∧ yX11_status.cls ≠ "java/lang/invoke/VarHandle" ∧ (parseMethodDescriptor yX11_status.desc).map (fun d => d.parameters.length) = some 1 := by decide +kernel
theorem hd_X11_sure : yX11_sure.cls = RX11 ∧ yX11_sure.cls ≠ "java/lang/invoke/MethodHandle" ∧ yX11_sure.cls ≠ "java/lang/invoke/VarHandle" ∧ (parseMethodDescriptor yX11_sure.desc).map (fun d => d.parameters.length) = some 2 := by decide +kernel
theorem hd_X11_text : yX11_text.cls = RX11 ∧ yX11_text.cls ≠ "java/lang/invoke/MethodHandle" ∧ yX11_text.cls ≠ "java/lang/invoke/VarHandle" ∧ (parseMethodDescriptor yX11_text.desc).map (fun d => d.parameters.length) = some 1 := by decide +kernel
theorem hd_X11_threaten : yX11_threaten.cls = RX11 ∧ yX11_threaten.cls ≠ "java/lang/invoke/MethodHandle" ∧ yX11_threaten.cls ≠ "java/lang/invoke/VarHandle" ∧ (parseMethodDescriptor yX11_threaten.desc).map (fun d => d.parameters.length) = some 1 := by decide +kernel
theorem hd_X11_thrown : yX11_thrown.cls = RX11 ∧ yX11_thrown.cls ≠ "java/lang/invoke/MethodHandle" ∧ yX11_thrown.cls ≠ "java/lang/invoke/VarHandle" ∧ (parseMethodDescriptor yX11_thrown.desc).map (fun d => d.parameters.length) = some 0 := by decide +kernel
theorem hd_X11_told : yX11_told.cls = RX11 ∧ yX11_told.cls ≠ "java/lang/invoke/MethodHandle" ∧ yX11_told.cls ≠ "java/lang/invoke/VarHandle" ∧ (parseMethodDescriptor yX11_told.desc).map (fun d => d.parameters.length) = some 1 := by decide +kernel
theorem hd_X11_truth : yX11_truth.cls = RX11 ∧ yX11_truth.cls ≠ "java/lang/invoke/MethodHandle" ∧ yX11_truth.cls ≠ "java/lang/invoke/VarHandle" ∧ (parseMethodDescriptor yX11_truth.desc).map (fun d => d.parameters.length) = some 2 := by decide +kernel
theorem hd_X11_undo : yX11_undo.cls = RX11 ∧ yX11_undo.cls ≠ "java/lang/invoke/MethodHandle" ∧ yX11_undo.cls ≠ "java/lang/invoke/VarHandle" ∧ (parseMethodDescriptor yX11_undo.desc).map (fun d => d.parameters.length) = some 0 := by decide +kernel
theorem hd_X11_usual : yX11_usual.cls = RX11 ∧ yX11_usual.cls ≠ "java/lang/invoke/MethodHandle" ∧ yX11_usual.cls ≠ "java/lang/invoke/VarHandle" ∧ (parseMethodDescriptor yX11_usual.desc).map (fun d => d.parameters.length) = some 2 := by decide +kernel
theorem hd_X11_wed : yX11_wed.cls = RX11 ∧ yX11_wed.cls ≠ "java/lang/invoke/MethodHandle" ∧ yX11_wed.cls ≠ "java/lang/invoke/VarHandle" ∧ (parseMethodDescriptor yX11_wed.desc).map (fun d => d.parameters.length) = some 1 := by decide +kernel
theorem hd_X11_whose : yX11_whose.cls = RX11 ∧ yX11_whose.cls ≠ "java/lang/invoke/MethodHandle" ∧ yX11_whose.cls ≠ "java/lang/invoke/VarHandle" ∧ (parseMethodDescriptor yX11_whose.desc).map (fun d => d.parameters.length) = some 2 := by decide +kernel
theorem hd_X11_worth : yX11_worth.cls = RX11 ∧ yX11_worth.cls ≠ "java/lang/invoke/MethodHandle" ∧ yX11_worth.cls ≠ "java/lang/invoke/VarHandle" ∧ (parseMethodDescriptor yX11_worth.desc).map (fun d => d.parameters.length) = some 2 := by decide +kernel
theorem hd_X1_init : yX1_init.cls = RX1 ∧ yX1_init.cls ≠ "java/lang/invoke/MethodHandle" ∧ yX1_init.cls ≠ "java/lang/invoke/VarHandle" ∧ (parseMethodDescriptor yX1_init.desc).map (fun d => d.parameters.length) = some 0 := by decide +kernel
theorem hd_X2_clause : yX2_clause.cls = RX2 ∧ yX2_clause.cls ≠ "java/lang/invoke/MethodHandle" ∧ yX2_clause.cls ≠ "java/lang/invoke/VarHandle" ∧ (parseMethodDescriptor yX2_clause.desc).map (fun d => d.parameters.length) = some 0 := by decide +kernel
theorem hd_X2_init : yX2_init.cls = RX2 ∧ yX2_init.cls ≠ "java/lang/invoke/MethodHandle" ∧ yX2_init.cls ≠ "java/lang/invoke/VarHandle" ∧ (parseMethodDescriptor yX2_init.desc).map (fun d => d.parameters.length) = some 0 := by decide +kernel
theorem hd_X2_read : yX2_read.cls = RX2 ∧ yX2_read.cls ≠ "java/lang/invoke/MethodHandle" ∧ yX2_read.cls ≠ "java/lang/invoke/VarHandle" ∧ (parseMethodDescriptor yX2_read.desc).map (fun d => d.parameters.length) = some 2 := by decide +kernel
theorem hd_X3_init : yX3_init.cls = RX3 ∧ yX3_init.cls ≠ "java/lang/invoke/MethodHandle" ∧ yX3_init.cls ≠ "java/lang/invoke/VarHandle" ∧ (parseMethodDescriptor yX3_init.desc).map (fun d => d.parameters.length) = some 0 := by decide +kernel
theorem hd_X5_clause : yX5_clause.cls = RX5 ∧ yX5_clause.cls ≠ "java/lang/invoke/MethodHandle" ∧ yX5_clause.cls ≠ "java/lang/invoke/VarHandle" ∧ (parseMethodDescriptor yX5_clause.desc).map (fun d => d.parameters.length) = some 0 := by decide +kernel
theorem hd_X5_init : yX5_init.cls = RX5 ∧ yX5_init.cls ≠ "java/lang/invoke/MethodHandle" ∧ yX5_init.cls ≠ "java/lang/invoke/VarHandle" ∧ (parseMethodDescriptor yX5_init.desc).map (fun d => d.parameters.length) = some 0 := by decide +kernel
theorem hd_X5_read : yX5_read.cls = RX5 ∧ yX5_read.cls ≠ "java/lang/invoke/MethodHandle" ∧ yX5_read.cls ≠ "java/lang/invoke/VarHandle" ∧ (parseMethodDescriptor yX5_read.desc).map (fun d => d.parameters.length) = some 1 := by decide +kernel
theorem hd_X6_init : yX6_init.cls = RX6 ∧ yX6_init.cls ≠ "java/lang/invoke/MethodHandle" ∧ yX6_init.cls ≠ "java/lang/invoke/VarHandle" ∧ (parseMethodDescriptor yX6_init.desc).map (fun d => d.parameters.length) = some 3 := by decide +kernel
theorem hd_X7_init : yX7_init.cls = RX7 ∧ yX7_init.cls ≠ "java/lang/invoke/MethodHandle" ∧ yX7_init.cls ≠ "java/lang/invoke/VarHandle" ∧ (parseMethodDescriptor yX7_init.desc).map (fun d => d.parameters.length) = some 0 := by decide +kernel
theorem hd_X8_init : yX8_init.cls = RX8 ∧ yX8_init.cls ≠ "java/lang/invoke/MethodHandle" ∧ yX8_init.cls ≠ "java/lang/invoke/VarHandle" ∧ (parseMethodDescriptor yX8_init.desc).map (fun d => d.parameters.length) = some 2 := by decide +kernel
theorem hd_X9_add : yX9_add.cls = RX9 ∧ yX9_add.cls ≠ "java/lang/invoke/MethodHandle" ∧ yX9_add.cls ≠ "java/lang/invoke/VarHandle" ∧ (parseMethodDescriptor yX9_add.desc).map (fun d => d.parameters.length) = some 1 := by decide +kernel
theorem hd_X9_init : yX9_init.cls = RX9 ∧ yX9_init.cls ≠ "java/lang/invoke/MethodHandle" ∧ yX9_init.cls ≠ "java/lang/invoke/VarHandle" ∧ (parseMethodDescriptor yX9_init.desc).map (fun d => d.parameters.length) = some 0 := by decide +kernel
theorem hd_X9_peek : yX9_peek.cls = RX9 ∧ yX9_peek.cls ≠ "java/lang/invoke/MethodHandle" ∧ yX9_peek.cls ≠ "java/lang/invoke/VarHandle" ∧ (parseMethodDescriptor yX9_peek.desc).map (fun d => d.parameters.length) = some 0 := by decide +kernel
theorem hd_X9_takes : yX9_takes.cls = RX9 ∧ yX9_takes.cls ≠ "java/lang/invoke/MethodHandle" ∧ yX9_takes.cls ≠ "java/lang/invoke/VarHandle" ∧ (parseMethodDescriptor yX9_takes.desc).map (fun d => d.parameters.length) = some 1 := by decide +kernel
/-- the words that a constructor needs beside the tables' good ones: its nest mates' constructors, the array of laws -/
def zE (U : State) : Prop := va_Nw (.methodLinkNest RX10 9 yX9_init "NinePortraits") U ∧ va_Nw (.methodLinkNest RX10 18 yX2_init "NinePortraits") U ∧ va_Nw (.methodLinkNest RX10 25 yX5_init "NinePortraits") U ∧ va_Nw (.methodLinkNest RX10 32 yX1_init "NinePortraits") U ∧ va_Nw (.methodLinkNest RX10 48 yX7_init "NinePortraits") U ∧ va_Nw (.methodLinkNest RX10 58 yX0_init "NinePortraits") U ∧ va_Nw (.methodLinkNest RX10 83 yX3_init "NinePortraits") U ∧ va_AO "NinePortraits$Law" U
theorem zE_same {u U : State} (h : u.vm = U.vm) (z : zE u) : zE U := by
  obtain ⟨h1, h2, h3, h4, h5, h6, h7, h8⟩ := z
  exact ⟨h1.same rfl h, h2.same rfl h, h3.same rfl h, h4.same rfl h, h5.same rfl h, h6.same rfl h, h7.same rfl h, va_AO.moved (by rw [h]; exact Vm.Alike.refl U.vm) h8⟩
theorem zE_warm {s U : State} (hW : s.WarmedH U.vm) (z : zE s) : zE U := by
  obtain ⟨h1, h2, h3, h4, h5, h6, h7, h8⟩ := z
  exact ⟨h1.warmM hW, h2.warmM hW, h3.warmM hW, h4.warmM hW, h5.warmM hW, h6.warmM hW, h7.warmM hW, va_AO.moved hW.alike h8⟩
def zPE (D : va_G) (ts : List (ClassId × FieldType)) (av : List Value) (sz : Nat) (ws : va_W) : Array Value → State → Prop := fun v U => zP D ts av sz ws v U ∧ zE U
theorem zPES {D : va_G} {ts : List (ClassId × FieldType)} {As : List Value} {ws : va_W} {s : State} {H : Heap} {A : Nat → Prop} (hP : va_P D vwCl ws H) (hK : va_K D vwCl ts s) (hD : va_D A ws) (hE : zE s) : PreS s H (zPE D ts As H.size ws) As :=
  ⟨fun a U g mk q => ⟨zPb a U g mk q.1, zE_same (u := U) rfl q.2⟩, fun U hU hW => ⟨(zPS hP hK hD).2 U hU hW, zE_warm hW hE⟩⟩
