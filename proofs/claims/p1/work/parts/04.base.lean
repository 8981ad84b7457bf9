def wA : List Cond := lw_tbl.filter goodWord
theorem zw (i : Nat) {w : Cond} (h : lw_tbl[i]? = some w) (hg : goodWord w = true) : w ∈ wA := List.mem_filter.mpr ⟨List.mem_of_getElem? h, hg⟩
theorem zin {ws : List Cond} (ps : List Nat) (hp : ws = ps.filterMap (fun i => lw_tbl[i]?)) (h : ws.all goodWord = true) : ∀ w ∈ ws, w ∈ wA := by
  intro w hw
  have h1 := List.all_eq_true.mp h w hw
  rw [hp] at hw
  obtain ⟨i, -, hi⟩ := List.mem_filterMap.mp hw
  exact List.mem_filter.mpr ⟨List.mem_of_getElem? hi, h1⟩
theorem zgood {w : Cond} (h : w ∈ wA) : w ∈ wA ∧ ((w.onTables && w.keeps) = true ∨ ∃ ty, w = .arrayClass ty) := ⟨h, good_of_word (List.mem_filter.mp h).2⟩
theorem zgI {w : Cond} (hc : w ∈ wA) : GoodIn wA (w :: wA) := by
  intro v hv
  rcases List.mem_cons.mp hv with rfl | h
  · exact zgood hc
  · exact zgood h
theorem zgV {own C : String} {idx : Nat} {y : MethodName} {w : Cond} (h1 : Cond.methodLink own idx y ∈ wA) (h2 : Cond.instanceMethod y ∈ wA) (h3 : Cond.selects C y y ∈ wA) (h4 : Cond.initialized C ∈ wA) (hc : w ∈ wA) : GoodIn wA (wsV own idx C y (w :: wA)) := by
  intro v hv
  unfold wsV at hv
  rcases List.mem_append.mp hv with h | h
  · simp only [List.mem_cons, List.not_mem_nil, or_false] at h
    rcases h with rfl | rfl | rfl | rfl
    · exact zgood h1
    · exact zgood h2
    · exact zgood h3
    · exact zgood h4
  · exact zgI hc v h
theorem zgS {own : String} {idx : Nat} {y : MethodName} {w : Cond} (h1 : Cond.methodLink own idx y ∈ wA) (h2 : Cond.static y ∈ wA) (h4 : Cond.initialized own ∈ wA) (hc : w ∈ wA) : GoodIn wA (wsS own idx y (w :: wA)) := by
  intro v hv
  unfold wsS at hv
  rcases List.mem_append.mp hv with h | h
  · simp only [List.mem_cons, List.not_mem_nil, or_false] at h
    rcases h with rfl | rfl | rfl
    · exact zgood h1
    · exact zgood h2
    · exact zgood h4
  · exact zgI hc v h
/-- a method's start: the arguments, the heap's size, the world, the tables, the cells apart -/
def zP (D : va_G) (ts : List (ClassId × FieldType)) (av : List Value) (sz : Nat) (ws : va_W) : Array Value → State → Prop := va_Pc av (fun U => U.heap.size = sz ∧ va_P D vwCl ws U.heap ∧ va_K D vwCl ts U ∧ va_D (fun _ => True) ws)
theorem zPb {D : va_G} {ts : List (ClassId × FieldType)} {av : List Value} {sz : Nat} {ws : va_W} : FrameBlind (zP D ts av sz ws) := fun a U g mk q => by
  obtain ⟨q0, q1, qP, qK, qD⟩ := q
  exact ⟨q0, q1, qP, va_K.moved (u := U) (U := U.calling g mk a) (Vm.Alike.refl U.vm) qK, qD⟩
theorem zPS {D : va_G} {ts : List (ClassId × FieldType)} {As : List Value} {ws : va_W} {s : State} {H : Heap} {A : Nat → Prop} (hP : va_P D vwCl ws H) (hK : va_K D vwCl ts s) (hD : va_D A ws) : PreS s H (zP D ts As H.size ws) As :=
  ⟨zPb, fun U hU hW => ⟨rfl, by rw [hU], by rw [hU]; exact hP, va_K.moved hW.alike hK, hD.weaken (fun _ _ _ _ => trivial)⟩⟩
theorem zPV {D : va_G} {ts : List (ClassId × FieldType)} {As : List Value} {ws : va_W} {s : State} {H : Heap} {A : Nat → Prop} {C : String} {b : Addr} (hP : va_P D vwCl ws H) (hK : va_K D vwCl ts s) (hD : va_D A ws) (hr : ∃ cell : Cell, H[b]? = some cell ∧ cell.vm.isStatics = false ∧ s.vm.findClass C = some cell.cls) : PreV s H C b (zP D ts (.ref b :: As) H.size ws) As :=
  ⟨zPb, hr, fun U hU hW => ⟨rfl, by rw [hU], by rw [hU]; exact hP, va_K.moved hW.alike hK, hD.weaken (fun _ _ _ _ => trivial)⟩⟩
theorem zP0 {D : va_G} {cl : List vw_C} {H : Heap} : va_P D cl [] H := fun k q h => by simp at h
theorem zD0 {A : Nat → Prop} : va_D A [] := ⟨fun i j p q h => by simp at h, fun k q h => by simp at h⟩
theorem zfr {A : Nat → Prop} {H0 H : Heap} {locs : List Loc} (hS : va_S A H0 H locs) (hA : ∀ q : Nat, H0.size ≤ q → A q) : ∀ q, va_A [] H.size q → A q := by
  intro q h
  rcases h with ⟨k, e, h⟩ | h
  · simp at h
  · exact hA q (Nat.le_trans hS.1 h)
theorem zkeep {D : va_G} {cl : List vw_C} {ws : va_W} {H H1 : Heap} (hP : va_P D cl ws H) (hk : ∀ q : Nat, q < H.size → ¬ va_A [] H.size q → H1[q]? = H[q]?) : va_P D cl ws H1 := by
  refine hP.kept (fun k q hq => hk q.1 (hP k q hq).lt ?_)
  rintro (⟨i, e, h⟩ | h)
  · simp at h
  · exact absurd (hP k q hq).lt (Nat.not_lt.mpr h)
theorem zstart {p : Program} {l : Launch} {e : Env} {R : Room} {s : State} {m : MethodId} {args : Array Value} {below : List Frame} {meth : Method} {c : Code} {cells slots : Nat} {Q : State → Prop} {g : JFrame} (kk : ∀ H : Heap, H = s.heap → W p l e R s m args below meth c H [] cells slots Q g) : W p l e R s m args below meth c s.heap [] cells slots Q g := kk _ rfl
theorem z1 {x y : Int32} {a b : Int} (hx : x.toInt = a) (hy : y.toInt = b) (h : x < y) : a < b := by rw [← hx, ← hy]; exact Int32.lt_iff_toInt_lt.mp h
theorem z2 {x y : Int32} {a b : Int} (hx : x.toInt = a) (hy : y.toInt = b) (h : ¬ x < y) : b ≤ a := by rw [← hx, ← hy]; exact Int.not_lt.mp (fun q => h (Int32.lt_iff_toInt_lt.mpr q))
theorem z3 {x y : Int32} {a b : Int} (hx : x.toInt = a) (hy : y.toInt = b) (h : x ≤ y) : a ≤ b := by rw [← hx, ← hy]; exact Int32.le_iff_toInt_le.mp h
theorem z4 {x y : Int32} {a b : Int} (hx : x.toInt = a) (hy : y.toInt = b) (h : ¬ x ≤ y) : b < a := by rw [← hx, ← hy]; exact Int.not_le.mp (fun q => h (Int32.le_iff_toInt_le.mpr q))
theorem z5 {x y : Int32} {a b : Int} (hx : x.toInt = a) (hy : y.toInt = b) (h : x = y) : a = b := by rw [← hx, ← hy, h]
theorem z6 {x y : Int32} {a b : Int} (hx : x.toInt = a) (hy : y.toInt = b) (h : ¬ x = y) : ¬ a = b := by rw [← hx, ← hy]; exact fun q => h (Int32.toInt_inj.mp q)
theorem z7 {x k : Int32} {a : Int} (hk : k.toInt = a) (h : x.toInt = a) : x = k := Int32.toInt_inj.mp (by rw [h, hk])
theorem zsw (x : Int32) (lo hi : Int) : (x.toInt < lo ∨ hi < x.toInt) ∨ (lo ≤ x.toInt ∧ x.toInt ≤ hi) := by omega
theorem zcA {D : va_G} {cl : List vw_C} {tys : List (ClassId × FieldType)} {s : State} {ty : FieldType} {c1 c2 : ClassId} (hK : va_K D cl tys s) (i j : Nat) (h1 : tys[i]? = some (c1, ty)) (h2 : tys[j]? = some (c2, ty)) : c2 = c1 := by
  have a := (hK.2 i _ h1).2
  have b := (hK.2 j _ h2).2
  cases ty <;> first | exact Option.some.inj (b.symm.trans a) | (obtain ⟨_, _, _, _, _, a⟩ := a; obtain ⟨_, _, _, _, _, b⟩ := b; exact Option.some.inj (b.symm.trans a))
set_option maxRecDepth 20000 in
theorem iX0 : ∀ w ∈ u_ws RX0 TX0 3, w ∈ wA := zin [272, 274, 276] (by decide +kernel) (by decide +kernel)
theorem fsX0 : ∀ j, j < 3 → defaultValue (tyX0 j) = vp_V [.null, .int 0, .int 0] j := by decide +kernel
set_option maxRecDepth 20000 in
theorem iX1 : ∀ w ∈ u_ws RX1 TX1 5, w ∈ wA := zin [201, 203, 205, 207, 209] (by decide +kernel) (by decide +kernel)
theorem fsX1 : ∀ j, j < 5 → defaultValue (tyX1 j) = vp_V [.null, .null, .null, .int 0, .int 0] j := by decide +kernel
set_option maxRecDepth 20000 in
theorem iX2 : ∀ w ∈ u_ws RX2 TX2 3, w ∈ wA := zin [157, 159, 161] (by decide +kernel) (by decide +kernel)
theorem fsX2 : ∀ j, j < 3 → defaultValue (tyX2 j) = vp_V [.null, .null, .int 0] j := by decide +kernel
set_option maxRecDepth 20000 in
theorem iX3 : ∀ w ∈ u_ws RX3 TX3 1, w ∈ wA := zin [353] (by decide +kernel) (by decide +kernel)
theorem fsX3 : ∀ j, j < 1 → defaultValue (tyX3 j) = vp_V [.long 0] j := by decide +kernel
set_option maxRecDepth 20000 in
theorem iX4 : ∀ w ∈ u_ws RX4 TX4 1, w ∈ wA := zin [577] (by decide +kernel) (by decide +kernel)
theorem fsX4 : ∀ j, j < 1 → defaultValue (tyX4 j) = vp_V [.null] j := by decide +kernel
set_option maxRecDepth 20000 in
theorem iX5 : ∀ w ∈ u_ws RX5 TX5 3, w ∈ wA := zin [173, 175, 177] (by decide +kernel) (by decide +kernel)
theorem fsX5 : ∀ j, j < 3 → defaultValue (tyX5 j) = vp_V [.null, .int 0, .null] j := by decide +kernel
set_option maxRecDepth 20000 in
theorem iX6 : ∀ w ∈ u_ws RX6 TX6 9, w ∈ wA := zin [326, 328, 330, 332, 334, 336, 338, 340, 342] (by decide +kernel) (by decide +kernel)
theorem fsX6 : ∀ j, j < 9 → defaultValue (tyX6 j) = vp_V [.null, .null, .null, .null, .long 0, .int 0, .null, .null, .null] j := by decide +kernel
set_option maxRecDepth 20000 in
theorem iX7 : ∀ w ∈ u_ws RX7 TX7 9, w ∈ wA := zin [243, 245, 247, 249, 251, 253, 255, 257, 259] (by decide +kernel) (by decide +kernel)
theorem fsX7 : ∀ j, j < 9 → defaultValue (tyX7 j) = vp_V [.null, .null, .null, .int 0, .int 0, .int 0, .int 0, .int 0, .int 0] j := by decide +kernel
set_option maxRecDepth 20000 in
theorem iX8 : ∀ w ∈ u_ws RX8 TX8 7, w ∈ wA := zin [295, 297, 299, 301, 303, 305, 307] (by decide +kernel) (by decide +kernel)
theorem fsX8 : ∀ j, j < 7 → defaultValue (tyX8 j) = vp_V [.null, .null, .null, .null, .null, .null, .null] j := by decide +kernel
set_option maxRecDepth 20000 in
theorem iX9 : ∀ w ∈ u_ws RX9 TX9 3, w ∈ wA := zin [140, 142, 144] (by decide +kernel) (by decide +kernel)
theorem fsX9 : ∀ j, j < 3 → defaultValue (tyX9 j) = vp_V [.null, .int 0, .int 0] j := by decide +kernel
set_option maxRecDepth 20000 in
theorem iX10 : ∀ w ∈ u_ws RX10 TX10 17, w ∈ wA := zin [373, 375, 377, 379, 381, 383, 385, 387, 389, 391, 393, 395, 397, 399, 401, 403, 405] (by decide +kernel) (by decide +kernel)
theorem fsX10 : ∀ j, j < 17 → defaultValue (tyX10 j) = vp_V [.null, .null, .null, .null, .null, .null, .null, .null, .null, .null, .null, .null, .null, .int 0, .int 0, .int 0, .int 0] j := by decide +kernel
set_option maxRecDepth 20000 in
theorem iX11 : ∀ w ∈ u_ws RX11 TX11 41, w ∈ wA := zin [1168, 1170, 1172, 1174, 1176, 1178, 1180, 1182, 1184, 1186, 1188, 1190, 1192, 1194, 1196, 1198, 1200, 1202, 1204, 1206, 1208, 1210, 1212, 1214, 1216, 1218, 1220, 1222, 1224, 1226, 1228, 1230, 1232, 1234, 1236, 1238, 1240, 1242, 1244, 1246, 1248] (by decide +kernel) (by decide +kernel)
theorem fsX11 : ∀ j, j < 41 → defaultValue (tyX11 j) = vp_V [.int 0, .null, .int 0, .int 0, .int 0, .int 0, .null, .null, .null, .null, .null, .null, .null, .int 0, .int 0, .null, .null, .null, .null, .null, .int 0, .int 0, .null, .null, .null, .int 0, .int 0, .null, .null, .int 0, .int 0, .null, .int 0, .long 0, .null, .int 0, .int 0, .null, .null, .null, .int 0] j := by decide +kernel
set_option maxRecDepth 20000 in
theorem qw0 : Cond.selects RX2 yX2_clause yX2_clause ∈ wA := zw 0 (by decide +kernel) (by decide +kernel)
set_option maxRecDepth 20000 in
theorem qw2 : Cond.selects RX5 yX5_clause yX5_clause ∈ wA := zw 2 (by decide +kernel) (by decide +kernel)
set_option maxRecDepth 20000 in
theorem qw10 : Cond.selects RX10 yX10_hasCourt yX10_hasCourt ∈ wA := zw 10 (by decide +kernel) (by decide +kernel)
set_option maxRecDepth 20000 in
theorem qw11 : Cond.selects RX10 yX10_isPainter yX10_isPainter ∈ wA := zw 11 (by decide +kernel) (by decide +kernel)
set_option maxRecDepth 20000 in
theorem qw12 : Cond.selects RX10 yX10_isBride yX10_isBride ∈ wA := zw 12 (by decide +kernel) (by decide +kernel)
set_option maxRecDepth 20000 in
theorem qw13 : Cond.selects RX10 yX10_refuse yX10_refuse ∈ wA := zw 13 (by decide +kernel) (by decide +kernel)
set_option maxRecDepth 20000 in
theorem qw15 : Cond.selects RX10 yX10_paysToHear yX10_paysToHear ∈ wA := zw 15 (by decide +kernel) (by decide +kernel)
set_option maxRecDepth 20000 in
theorem qw25 : Cond.selects RX10 yX10_canPlay yX10_canPlay ∈ wA := zw 25 (by decide +kernel) (by decide +kernel)
set_option maxRecDepth 20000 in
theorem qw31 : Cond.selects RX11 yX11_readCourt yX11_readCourt ∈ wA := zw 31 (by decide +kernel) (by decide +kernel)
set_option maxRecDepth 20000 in
theorem qw32 : Cond.selects RX11 yX11_look yX11_look ∈ wA := zw 32 (by decide +kernel) (by decide +kernel)
set_option maxRecDepth 20000 in
theorem qw33 : Cond.selects RX11 yX11_here yX11_here ∈ wA := zw 33 (by decide +kernel) (by decide +kernel)
set_option maxRecDepth 20000 in
theorem qw36 : Cond.selects RX11 yX11_bad yX11_bad ∈ wA := zw 36 (by decide +kernel) (by decide +kernel)
set_option maxRecDepth 20000 in
theorem qw37 : Cond.selects RX11 yX11_readLaw yX11_readLaw ∈ wA := zw 37 (by decide +kernel) (by decide +kernel)
set_option maxRecDepth 20000 in
theorem qw38 : Cond.selects RX11 yX11_open yX11_open ∈ wA := zw 38 (by decide +kernel) (by decide +kernel)
set_option maxRecDepth 20000 in
theorem qw39 : Cond.selects RX11 yX11_clause yX11_clause ∈ wA := zw 39 (by decide +kernel) (by decide +kernel)
set_option maxRecDepth 20000 in
theorem qw52 : Cond.selects RX11 yX11_atEnd yX11_atEnd ∈ wA := zw 52 (by decide +kernel) (by decide +kernel)
set_option maxRecDepth 20000 in
theorem qw56 : Cond.selects RX11 yX11_isBride yX11_isBride ∈ wA := zw 56 (by decide +kernel) (by decide +kernel)
set_option maxRecDepth 20000 in
theorem qw57 : Cond.selects RX11 yX11_isPainter yX11_isPainter ∈ wA := zw 57 (by decide +kernel) (by decide +kernel)
set_option maxRecDepth 20000 in
theorem qw58 : Cond.selects RX11 yX11_areBoth yX11_areBoth ∈ wA := zw 58 (by decide +kernel) (by decide +kernel)
set_option maxRecDepth 20000 in
theorem qw66 : Cond.selects RX11 yX11_isRefused yX11_isRefused ∈ wA := zw 66 (by decide +kernel) (by decide +kernel)
set_option maxRecDepth 20000 in
theorem qw69 : Cond.selects RX11 yX11_isTold yX11_isTold ∈ wA := zw 69 (by decide +kernel) (by decide +kernel)
set_option maxRecDepth 20000 in
theorem qw88 : Cond.selects RX11 yX11_areTwo yX11_areTwo ∈ wA := zw 88 (by decide +kernel) (by decide +kernel)
set_option maxRecDepth 20000 in
theorem qw98 : Cond.initialized RX10 ∈ wA := zw 98 (by decide +kernel) (by decide +kernel)
set_option maxRecDepth 20000 in
theorem qw99 : Cond.initialized RX9 ∈ wA := zw 99 (by decide +kernel) (by decide +kernel)
set_option maxRecDepth 20000 in
theorem qw100 : Cond.initialized RX2 ∈ wA := zw 100 (by decide +kernel) (by decide +kernel)
set_option maxRecDepth 20000 in
theorem qw101 : Cond.initialized RX5 ∈ wA := zw 101 (by decide +kernel) (by decide +kernel)
set_option maxRecDepth 20000 in
theorem qw102 : Cond.initialized RX1 ∈ wA := zw 102 (by decide +kernel) (by decide +kernel)
set_option maxRecDepth 20000 in
theorem qw103 : Cond.initialized RX7 ∈ wA := zw 103 (by decide +kernel) (by decide +kernel)
set_option maxRecDepth 20000 in
theorem qw104 : Cond.initialized RX0 ∈ wA := zw 104 (by decide +kernel) (by decide +kernel)
set_option maxRecDepth 20000 in
theorem qw105 : Cond.initialized RX8 ∈ wA := zw 105 (by decide +kernel) (by decide +kernel)
set_option maxRecDepth 20000 in
theorem qw106 : Cond.initialized RX6 ∈ wA := zw 106 (by decide +kernel) (by decide +kernel)
set_option maxRecDepth 20000 in
theorem qw107 : Cond.initialized RX3 ∈ wA := zw 107 (by decide +kernel) (by decide +kernel)
set_option maxRecDepth 20000 in
theorem qw108 : Cond.initialized RX11 ∈ wA := zw 108 (by decide +kernel) (by decide +kernel)
set_option maxRecDepth 20000 in
theorem qw109 : Cond.initialized "java/lang/System" ∈ wA := zw 109 (by decide +kernel) (by decide +kernel)
set_option maxRecDepth 20000 in
theorem qw123 : Cond.methodLink RX10 1 objectInit ∈ wA := zw 123 (by decide +kernel) (by decide +kernel)
set_option maxRecDepth 20000 in
theorem qw124 : Cond.instanceMethod objectInit ∈ wA := zw 124 (by decide +kernel) (by decide +kernel)
set_option maxRecDepth 20000 in
theorem qw125 : Cond.code objectInit ⟨#[0xb1]⟩ 1 none ∈ wA := zw 125 (by decide +kernel) (by decide +kernel)
set_option maxRecDepth 20000 in
theorem qw126 : Cond.classLink RX10 7 RX9 ∈ wA := zw 126 (by decide +kernel) (by decide +kernel)
set_option maxRecDepth 20000 in
theorem qw127 : Cond.instantiable RX9 3 ∈ wA := zw 127 (by decide +kernel) (by decide +kernel)
set_option maxRecDepth 20000 in
theorem qw129 : Cond.instanceMethod yX9_init ∈ wA := zw 129 (by decide +kernel) (by decide +kernel)
set_option maxRecDepth 20000 in
theorem qw130 : Cond.code yX9_init cX9_init 1 none ∈ wA := zw 130 (by decide +kernel) (by decide +kernel)
set_option maxRecDepth 20000 in
theorem qw131 : Cond.methodLink RX9 3 objectInit ∈ wA := zw 131 (by decide +kernel) (by decide +kernel)
set_option maxRecDepth 20000 in
theorem qw132 : Cond.fieldLink RX9 9 "NinePortraits$Tape" "bytes" "[I" ∈ wA := zw 132 (by decide +kernel) (by decide +kernel)
set_option maxRecDepth 20000 in
theorem qw133 : Cond.fieldLink RX10 96 "NinePortraits$Tape" "length" "I" ∈ wA := zw 133 (by decide +kernel) (by decide +kernel)
set_option maxRecDepth 20000 in
theorem qw134 : Cond.fieldLink RX9 15 "NinePortraits$Tape" "length" "I" ∈ wA := zw 134 (by decide +kernel) (by decide +kernel)
set_option maxRecDepth 20000 in
theorem qw135 : Cond.fieldLink RX5 32 "NinePortraits$Tape" "length" "I" ∈ wA := zw 135 (by decide +kernel) (by decide +kernel)
set_option maxRecDepth 20000 in
theorem qw136 : Cond.fieldLink RX2 54 "NinePortraits$Tape" "length" "I" ∈ wA := zw 136 (by decide +kernel) (by decide +kernel)
set_option maxRecDepth 20000 in
theorem qw137 : Cond.fieldLink RX5 19 "NinePortraits$Tape" "at" "I" ∈ wA := zw 137 (by decide +kernel) (by decide +kernel)
set_option maxRecDepth 20000 in
theorem qw138 : Cond.fieldLink RX2 19 "NinePortraits$Tape" "at" "I" ∈ wA := zw 138 (by decide +kernel) (by decide +kernel)
set_option maxRecDepth 20000 in
theorem qw139 : Cond.fieldLink RX9 19 "NinePortraits$Tape" "at" "I" ∈ wA := zw 139 (by decide +kernel) (by decide +kernel)
set_option maxRecDepth 20000 in
theorem qw147 : Cond.arrayClass .int ∈ wA := zw 147 (by decide +kernel) (by decide +kernel)
set_option maxRecDepth 20000 in
theorem qw148 : Cond.classLink RX10 16 RX2 ∈ wA := zw 148 (by decide +kernel) (by decide +kernel)
set_option maxRecDepth 20000 in
theorem qw149 : Cond.instantiable RX2 3 ∈ wA := zw 149 (by decide +kernel) (by decide +kernel)
set_option maxRecDepth 20000 in
theorem qw151 : Cond.instanceMethod yX2_init ∈ wA := zw 151 (by decide +kernel) (by decide +kernel)
set_option maxRecDepth 20000 in
theorem qw152 : Cond.code yX2_init cX2_init 1 none ∈ wA := zw 152 (by decide +kernel) (by decide +kernel)
set_option maxRecDepth 20000 in
theorem qw153 : Cond.methodLink RX2 3 objectInit ∈ wA := zw 153 (by decide +kernel) (by decide +kernel)
set_option maxRecDepth 20000 in
theorem qw154 : Cond.fieldLink RX2 9 "NinePortraits$CourtReader" "tape" "LNinePortraits$Tape;" ∈ wA := zw 154 (by decide +kernel) (by decide +kernel)
set_option maxRecDepth 20000 in
theorem qw155 : Cond.fieldLink RX2 15 "NinePortraits$CourtReader" "court" "LNinePortraits$Court;" ∈ wA := zw 155 (by decide +kernel) (by decide +kernel)
set_option maxRecDepth 20000 in
theorem qw156 : Cond.fieldLink RX2 33 "NinePortraits$CourtReader" "hasRules" "Z" ∈ wA := zw 156 (by decide +kernel) (by decide +kernel)
set_option maxRecDepth 20000 in
theorem qw164 : Cond.classLink RX10 23 RX5 ∈ wA := zw 164 (by decide +kernel) (by decide +kernel)
set_option maxRecDepth 20000 in
theorem qw165 : Cond.instantiable RX5 3 ∈ wA := zw 165 (by decide +kernel) (by decide +kernel)
set_option maxRecDepth 20000 in
theorem qw167 : Cond.instanceMethod yX5_init ∈ wA := zw 167 (by decide +kernel) (by decide +kernel)
set_option maxRecDepth 20000 in
theorem qw168 : Cond.code yX5_init cX5_init 1 none ∈ wA := zw 168 (by decide +kernel) (by decide +kernel)
set_option maxRecDepth 20000 in
theorem qw169 : Cond.methodLink RX5 3 objectInit ∈ wA := zw 169 (by decide +kernel) (by decide +kernel)
set_option maxRecDepth 20000 in
theorem qw170 : Cond.fieldLink RX5 9 "NinePortraits$LawReader" "steps" "[I" ∈ wA := zw 170 (by decide +kernel) (by decide +kernel)
set_option maxRecDepth 20000 in
theorem qw171 : Cond.fieldLink RX5 25 "NinePortraits$LawReader" "size" "I" ∈ wA := zw 171 (by decide +kernel) (by decide +kernel)
set_option maxRecDepth 20000 in
theorem qw172 : Cond.fieldLink RX5 15 "NinePortraits$LawReader" "tape" "LNinePortraits$Tape;" ∈ wA := zw 172 (by decide +kernel) (by decide +kernel)
set_option maxRecDepth 20000 in
theorem qw180 : Cond.classLink RX10 30 RX1 ∈ wA := zw 180 (by decide +kernel) (by decide +kernel)
set_option maxRecDepth 20000 in
theorem qw181 : Cond.instantiable RX1 5 ∈ wA := zw 181 (by decide +kernel) (by decide +kernel)
set_option maxRecDepth 20000 in
theorem qw183 : Cond.instanceMethod yX1_init ∈ wA := zw 183 (by decide +kernel) (by decide +kernel)
set_option maxRecDepth 20000 in
theorem qw184 : Cond.code yX1_init cX1_init 1 none ∈ wA := zw 184 (by decide +kernel) (by decide +kernel)
set_option maxRecDepth 20000 in
theorem qw185 : Cond.methodLink RX1 3 objectInit ∈ wA := zw 185 (by decide +kernel) (by decide +kernel)
set_option maxRecDepth 20000 in
theorem qw186 : Cond.fieldLink RX1 9 "NinePortraits$Court" "rules" "[I" ∈ wA := zw 186 (by decide +kernel) (by decide +kernel)
set_option maxRecDepth 20000 in
theorem qw187 : Cond.fieldLink RX2 41 "NinePortraits$Court" "rules" "[I" ∈ wA := zw 187 (by decide +kernel) (by decide +kernel)
set_option maxRecDepth 20000 in
theorem qw188 : Cond.fieldLink RX1 15 "NinePortraits$Court" "brideParts" "[I" ∈ wA := zw 188 (by decide +kernel) (by decide +kernel)
set_option maxRecDepth 20000 in
theorem qw190 : Cond.fieldLink RX1 18 "NinePortraits$Court" "painterParts" "[I" ∈ wA := zw 190 (by decide +kernel) (by decide +kernel)
set_option maxRecDepth 20000 in
theorem qw193 : Cond.fieldLink RX2 25 "NinePortraits$Court" "brides" "I" ∈ wA := zw 193 (by decide +kernel) (by decide +kernel)
set_option maxRecDepth 20000 in
theorem qw195 : Cond.fieldLink RX10 134 "NinePortraits$Court" "brides" "I" ∈ wA := zw 195 (by decide +kernel) (by decide +kernel)
set_option maxRecDepth 20000 in
theorem qw197 : Cond.fieldLink RX2 30 "NinePortraits$Court" "painters" "I" ∈ wA := zw 197 (by decide +kernel) (by decide +kernel)
set_option maxRecDepth 20000 in
theorem qw200 : Cond.fieldLink RX10 266 "NinePortraits$Court" "painters" "I" ∈ wA := zw 200 (by decide +kernel) (by decide +kernel)
set_option maxRecDepth 20000 in
theorem qw212 : Cond.classLink RX10 40 RX4 ∈ wA := zw 212 (by decide +kernel) (by decide +kernel)
set_option maxRecDepth 20000 in
theorem qw214 : Cond.classLink RX10 46 RX7 ∈ wA := zw 214 (by decide +kernel) (by decide +kernel)
set_option maxRecDepth 20000 in
theorem qw215 : Cond.instantiable RX7 9 ∈ wA := zw 215 (by decide +kernel) (by decide +kernel)
set_option maxRecDepth 20000 in
theorem qw217 : Cond.instanceMethod yX7_init ∈ wA := zw 217 (by decide +kernel) (by decide +kernel)
set_option maxRecDepth 20000 in
theorem qw218 : Cond.code yX7_init cX7_init 1 none ∈ wA := zw 218 (by decide +kernel) (by decide +kernel)
set_option maxRecDepth 20000 in
theorem qw219 : Cond.methodLink RX7 3 objectInit ∈ wA := zw 219 (by decide +kernel) (by decide +kernel)
set_option maxRecDepth 20000 in
theorem qw220 : Cond.fieldLink RX7 9 "NinePortraits$State" "pays" "[I" ∈ wA := zw 220 (by decide +kernel) (by decide +kernel)
set_option maxRecDepth 20000 in
theorem qw223 : Cond.fieldLink RX7 15 "NinePortraits$State" "fears" "[I" ∈ wA := zw 223 (by decide +kernel) (by decide +kernel)
set_option maxRecDepth 20000 in
theorem qw226 : Cond.fieldLink RX7 18 "NinePortraits$State" "portraits" "[I" ∈ wA := zw 226 (by decide +kernel) (by decide +kernel)
set_option maxRecDepth 20000 in
theorem qw229 : Cond.fieldLink RX10 216 "NinePortraits$State" "painted" "I" ∈ wA := zw 229 (by decide +kernel) (by decide +kernel)
set_option maxRecDepth 20000 in
theorem qw232 : Cond.fieldLink RX10 174 "NinePortraits$State" "letters" "I" ∈ wA := zw 232 (by decide +kernel) (by decide +kernel)
set_option maxRecDepth 20000 in
theorem qw235 : Cond.fieldLink RX10 181 "NinePortraits$State" "shoes" "I" ∈ wA := zw 235 (by decide +kernel) (by decide +kernel)
set_option maxRecDepth 20000 in
theorem qw236 : Cond.fieldLink RX7 21 "NinePortraits$State" "wed" "I" ∈ wA := zw 236 (by decide +kernel) (by decide +kernel)
set_option maxRecDepth 20000 in
theorem qw237 : Cond.fieldLink RX10 237 "NinePortraits$State" "wed" "I" ∈ wA := zw 237 (by decide +kernel) (by decide +kernel)
set_option maxRecDepth 20000 in
theorem qw242 : Cond.fieldLink RX10 248 "NinePortraits$State" "month" "I" ∈ wA := zw 242 (by decide +kernel) (by decide +kernel)
set_option maxRecDepth 20000 in
theorem qw262 : Cond.classLink RX10 56 RX0 ∈ wA := zw 262 (by decide +kernel) (by decide +kernel)
set_option maxRecDepth 20000 in
theorem qw263 : Cond.instantiable RX0 3 ∈ wA := zw 263 (by decide +kernel) (by decide +kernel)
set_option maxRecDepth 20000 in
theorem qw265 : Cond.instanceMethod yX0_init ∈ wA := zw 265 (by decide +kernel) (by decide +kernel)
set_option maxRecDepth 20000 in
theorem qw266 : Cond.code yX0_init cX0_init 1 none ∈ wA := zw 266 (by decide +kernel) (by decide +kernel)
set_option maxRecDepth 20000 in
theorem qw267 : Cond.methodLink RX0 3 objectInit ∈ wA := zw 267 (by decide +kernel) (by decide +kernel)
set_option maxRecDepth 20000 in
theorem qw268 : Cond.fieldLink RX0 11 "NinePortraits$Acts" "rows" "[I" ∈ wA := zw 268 (by decide +kernel) (by decide +kernel)
set_option maxRecDepth 20000 in
theorem qw270 : Cond.fieldLink RX0 25 "NinePortraits$Acts" "count" "I" ∈ wA := zw 270 (by decide +kernel) (by decide +kernel)
set_option maxRecDepth 20000 in
theorem qw271 : Cond.fieldLink RX10 276 "NinePortraits$Acts" "count" "I" ∈ wA := zw 271 (by decide +kernel) (by decide +kernel)
set_option maxRecDepth 20000 in
theorem qw279 : Cond.classLink RX10 63 RX8 ∈ wA := zw 279 (by decide +kernel) (by decide +kernel)
set_option maxRecDepth 20000 in
theorem qw280 : Cond.instantiable RX8 7 ∈ wA := zw 280 (by decide +kernel) (by decide +kernel)
set_option maxRecDepth 20000 in
theorem qw281 : Cond.methodLink RX10 65 yX8_init ∈ wA := zw 281 (by decide +kernel) (by decide +kernel)
set_option maxRecDepth 20000 in
theorem qw282 : Cond.instanceMethod yX8_init ∈ wA := zw 282 (by decide +kernel) (by decide +kernel)
set_option maxRecDepth 20000 in
theorem qw283 : Cond.code yX8_init cX8_init 3 none ∈ wA := zw 283 (by decide +kernel) (by decide +kernel)
set_option maxRecDepth 20000 in
theorem qw284 : Cond.methodLink RX8 3 objectInit ∈ wA := zw 284 (by decide +kernel) (by decide +kernel)
set_option maxRecDepth 20000 in
theorem qw285 : Cond.fieldLink RX8 9 "NinePortraits$Studio" "oneLooks" "[I" ∈ wA := zw 285 (by decide +kernel) (by decide +kernel)
set_option maxRecDepth 20000 in
theorem qw287 : Cond.fieldLink RX8 15 "NinePortraits$Studio" "otherLooks" "[I" ∈ wA := zw 287 (by decide +kernel) (by decide +kernel)
set_option maxRecDepth 20000 in
theorem qw289 : Cond.fieldLink RX8 24 "NinePortraits$Studio" "court" "LNinePortraits$Court;" ∈ wA := zw 289 (by decide +kernel) (by decide +kernel)
set_option maxRecDepth 20000 in
theorem qw290 : Cond.fieldLink RX8 28 "NinePortraits$Studio" "state" "LNinePortraits$State;" ∈ wA := zw 290 (by decide +kernel) (by decide +kernel)
set_option maxRecDepth 20000 in
theorem qw291 : Cond.fieldLink RX8 18 "NinePortraits$Studio" "letters" "[I" ∈ wA := zw 291 (by decide +kernel) (by decide +kernel)
set_option maxRecDepth 20000 in
theorem qw292 : Cond.fieldLink RX8 21 "NinePortraits$Studio" "stack" "[I" ∈ wA := zw 292 (by decide +kernel) (by decide +kernel)
set_option maxRecDepth 20000 in
theorem qw294 : Cond.fieldLink RX10 199 "NinePortraits$Studio" "law" "LNinePortraits$Law;" ∈ wA := zw 294 (by decide +kernel) (by decide +kernel)
set_option maxRecDepth 20000 in
theorem qw310 : Cond.classLink RX10 72 RX6 ∈ wA := zw 310 (by decide +kernel) (by decide +kernel)
set_option maxRecDepth 20000 in
theorem qw311 : Cond.instantiable RX6 9 ∈ wA := zw 311 (by decide +kernel) (by decide +kernel)
set_option maxRecDepth 20000 in
theorem qw312 : Cond.methodLink RX10 74 yX6_init ∈ wA := zw 312 (by decide +kernel) (by decide +kernel)
set_option maxRecDepth 20000 in
theorem qw313 : Cond.instanceMethod yX6_init ∈ wA := zw 313 (by decide +kernel) (by decide +kernel)
set_option maxRecDepth 20000 in
theorem qw314 : Cond.code yX6_init cX6_init 4 none ∈ wA := zw 314 (by decide +kernel) (by decide +kernel)
set_option maxRecDepth 20000 in
theorem qw315 : Cond.methodLink RX6 3 objectInit ∈ wA := zw 315 (by decide +kernel) (by decide +kernel)
set_option maxRecDepth 20000 in
theorem qw316 : Cond.fieldLink RX6 25 "NinePortraits$Mind" "court" "LNinePortraits$Court;" ∈ wA := zw 316 (by decide +kernel) (by decide +kernel)
set_option maxRecDepth 20000 in
theorem qw317 : Cond.fieldLink RX6 29 "NinePortraits$Mind" "state" "LNinePortraits$State;" ∈ wA := zw 317 (by decide +kernel) (by decide +kernel)
set_option maxRecDepth 20000 in
theorem qw318 : Cond.fieldLink RX6 33 "NinePortraits$Mind" "studio" "LNinePortraits$Studio;" ∈ wA := zw 318 (by decide +kernel) (by decide +kernel)
set_option maxRecDepth 20000 in
theorem qw319 : Cond.fieldLink RX6 9 "NinePortraits$Mind" "weights" "[J" ∈ wA := zw 319 (by decide +kernel) (by decide +kernel)
set_option maxRecDepth 20000 in
theorem qw323 : Cond.fieldLink RX6 15 "NinePortraits$Mind" "views" "[I" ∈ wA := zw 323 (by decide +kernel) (by decide +kernel)
set_option maxRecDepth 20000 in
theorem qw324 : Cond.fieldLink RX6 19 "NinePortraits$Mind" "alike" "[I" ∈ wA := zw 324 (by decide +kernel) (by decide +kernel)
set_option maxRecDepth 20000 in
theorem qw325 : Cond.fieldLink RX6 22 "NinePortraits$Mind" "tellers" "[I" ∈ wA := zw 325 (by decide +kernel) (by decide +kernel)
set_option maxRecDepth 20000 in
theorem qw345 : Cond.arrayClass .long ∈ wA := zw 345 (by decide +kernel) (by decide +kernel)
set_option maxRecDepth 20000 in
theorem qw346 : Cond.classLink RX10 81 RX3 ∈ wA := zw 346 (by decide +kernel) (by decide +kernel)
set_option maxRecDepth 20000 in
theorem qw347 : Cond.instantiable RX3 1 ∈ wA := zw 347 (by decide +kernel) (by decide +kernel)
set_option maxRecDepth 20000 in
theorem qw349 : Cond.instanceMethod yX3_init ∈ wA := zw 349 (by decide +kernel) (by decide +kernel)
set_option maxRecDepth 20000 in
theorem qw350 : Cond.code yX3_init cX3_init 1 none ∈ wA := zw 350 (by decide +kernel) (by decide +kernel)
set_option maxRecDepth 20000 in
theorem qw351 : Cond.methodLink RX3 1 objectInit ∈ wA := zw 351 (by decide +kernel) (by decide +kernel)
set_option maxRecDepth 20000 in
theorem qw356 : Cond.fieldLink RX10 10 "NinePortraits" "tape" "LNinePortraits$Tape;" ∈ wA := zw 356 (by decide +kernel) (by decide +kernel)
set_option maxRecDepth 20000 in
theorem qw357 : Cond.fieldLink RX10 19 "NinePortraits" "courtReader" "LNinePortraits$CourtReader;" ∈ wA := zw 357 (by decide +kernel) (by decide +kernel)
set_option maxRecDepth 20000 in
theorem qw358 : Cond.fieldLink RX10 26 "NinePortraits" "lawReader" "LNinePortraits$LawReader;" ∈ wA := zw 358 (by decide +kernel) (by decide +kernel)
set_option maxRecDepth 20000 in
theorem qw359 : Cond.fieldLink RX10 33 "NinePortraits" "draft" "LNinePortraits$Court;" ∈ wA := zw 359 (by decide +kernel) (by decide +kernel)
set_option maxRecDepth 20000 in
theorem qw360 : Cond.fieldLink RX10 37 "NinePortraits" "court" "LNinePortraits$Court;" ∈ wA := zw 360 (by decide +kernel) (by decide +kernel)
set_option maxRecDepth 20000 in
theorem qw361 : Cond.fieldLink RX10 42 "NinePortraits" "laws" "[LNinePortraits$Law;" ∈ wA := zw 361 (by decide +kernel) (by decide +kernel)
set_option maxRecDepth 20000 in
theorem qw362 : Cond.fieldLink RX10 49 "NinePortraits" "state" "LNinePortraits$State;" ∈ wA := zw 362 (by decide +kernel) (by decide +kernel)
set_option maxRecDepth 20000 in
theorem qw363 : Cond.fieldLink RX10 53 "NinePortraits" "kept" "LNinePortraits$State;" ∈ wA := zw 363 (by decide +kernel) (by decide +kernel)
set_option maxRecDepth 20000 in
theorem qw364 : Cond.fieldLink RX10 59 "NinePortraits" "acts" "LNinePortraits$Acts;" ∈ wA := zw 364 (by decide +kernel) (by decide +kernel)
set_option maxRecDepth 20000 in
theorem qw365 : Cond.fieldLink RX10 68 "NinePortraits" "studio" "LNinePortraits$Studio;" ∈ wA := zw 365 (by decide +kernel) (by decide +kernel)
set_option maxRecDepth 20000 in
theorem qw366 : Cond.fieldLink RX10 77 "NinePortraits" "mind" "LNinePortraits$Mind;" ∈ wA := zw 366 (by decide +kernel) (by decide +kernel)
set_option maxRecDepth 20000 in
theorem qw367 : Cond.fieldLink RX10 84 "NinePortraits" "draws" "LNinePortraits$Draws;" ∈ wA := zw 367 (by decide +kernel) (by decide +kernel)
set_option maxRecDepth 20000 in
theorem qw368 : Cond.fieldLink RX10 88 "NinePortraits" "refused" "[I" ∈ wA := zw 368 (by decide +kernel) (by decide +kernel)
set_option maxRecDepth 20000 in
theorem qw369 : Cond.fieldLink RX10 114 "NinePortraits" "lawCount" "I" ∈ wA := zw 369 (by decide +kernel) (by decide +kernel)
set_option maxRecDepth 20000 in
theorem qw370 : Cond.fieldLink RX10 92 "NinePortraits" "lawThatHolds" "I" ∈ wA := zw 370 (by decide +kernel) (by decide +kernel)
set_option maxRecDepth 20000 in
theorem qw371 : Cond.fieldLink RX10 254 "NinePortraits" "bribery" "I" ∈ wA := zw 371 (by decide +kernel) (by decide +kernel)
set_option maxRecDepth 20000 in
theorem qw372 : Cond.fieldLink RX10 130 "NinePortraits" "hasImage" "Z" ∈ wA := zw 372 (by decide +kernel) (by decide +kernel)
set_option maxRecDepth 20000 in
theorem qw424 : Cond.methodLink RX10 103 yX2_read ∈ wA := zw 424 (by decide +kernel) (by decide +kernel)
set_option maxRecDepth 20000 in
theorem qw425 : Cond.instanceMethod yX2_read ∈ wA := zw 425 (by decide +kernel) (by decide +kernel)
set_option maxRecDepth 20000 in
theorem qw426 : Cond.selects RX2 yX2_read yX2_read ∈ wA := zw 426 (by decide +kernel) (by decide +kernel)
set_option maxRecDepth 20000 in
theorem qw427 : Cond.code yX2_read cX2_read 5 (some .int) ∈ wA := zw 427 (by decide +kernel) (by decide +kernel)
set_option maxRecDepth 20000 in
theorem qw428 : Cond.fieldLink RX2 37 "NinePortraits$CourtReader" "RULE_DEFAULTS" "[I" ∈ wA := zw 428 (by decide +kernel) (by decide +kernel)
set_option maxRecDepth 20000 in
theorem qw430 : Cond.methodLink RX2 44 arraycopyName ∈ wA := zw 430 (by decide +kernel) (by decide +kernel)
set_option maxRecDepth 20000 in
theorem qw431 : Cond.static arraycopyName ∈ wA := zw 431 (by decide +kernel) (by decide +kernel)
set_option maxRecDepth 20000 in
theorem qw432 : Cond.native arraycopyName ∈ wA := zw 432 (by decide +kernel) (by decide +kernel)
set_option maxRecDepth 20000 in
theorem qw433 : Cond.methodLink RX2 50 yX2_clause ∈ wA := zw 433 (by decide +kernel) (by decide +kernel)
set_option maxRecDepth 20000 in
theorem qw435 : Cond.instanceMethod yX2_clause ∈ wA := zw 435 (by decide +kernel) (by decide +kernel)
set_option maxRecDepth 20000 in
theorem qw436 : Cond.code yX2_clause cX2_clause 3 (some .boolean) ∈ wA := zw 436 (by decide +kernel) (by decide +kernel)
set_option maxRecDepth 20000 in
theorem qw437 : Cond.methodLink RX2 61 yX9_peek ∈ wA := zw 437 (by decide +kernel) (by decide +kernel)
set_option maxRecDepth 20000 in
theorem qw438 : Cond.instanceMethod yX9_peek ∈ wA := zw 438 (by decide +kernel) (by decide +kernel)
set_option maxRecDepth 20000 in
theorem qw439 : Cond.selects RX9 yX9_peek yX9_peek ∈ wA := zw 439 (by decide +kernel) (by decide +kernel)
set_option maxRecDepth 20000 in
theorem qw440 : Cond.code yX9_peek cX9_peek 1 (some .int) ∈ wA := zw 440 (by decide +kernel) (by decide +kernel)
set_option maxRecDepth 20000 in
theorem qw472 : Cond.instanceMethod yX9_takes ∈ wA := zw 472 (by decide +kernel) (by decide +kernel)
set_option maxRecDepth 20000 in
theorem qw473 : Cond.selects RX9 yX9_takes yX9_takes ∈ wA := zw 473 (by decide +kernel) (by decide +kernel)
set_option maxRecDepth 20000 in
theorem qw474 : Cond.code yX9_takes cX9_takes 2 (some .boolean) ∈ wA := zw 474 (by decide +kernel) (by decide +kernel)
set_option maxRecDepth 20000 in
theorem qw475 : Cond.methodLink RX9 22 yX9_peek ∈ wA := zw 475 (by decide +kernel) (by decide +kernel)
set_option maxRecDepth 20000 in
theorem qw476 : Cond.methodLink RX10 107 yX5_read ∈ wA := zw 476 (by decide +kernel) (by decide +kernel)
set_option maxRecDepth 20000 in
theorem qw477 : Cond.instanceMethod yX5_read ∈ wA := zw 477 (by decide +kernel) (by decide +kernel)
set_option maxRecDepth 20000 in
theorem qw478 : Cond.selects RX5 yX5_read yX5_read ∈ wA := zw 478 (by decide +kernel) (by decide +kernel)
set_option maxRecDepth 20000 in
theorem qw479 : Cond.code yX5_read cX5_read 4 (some .int) ∈ wA := zw 479 (by decide +kernel) (by decide +kernel)
set_option maxRecDepth 20000 in
theorem qw480 : Cond.methodLink RX5 28 yX5_clause ∈ wA := zw 480 (by decide +kernel) (by decide +kernel)
set_option maxRecDepth 20000 in
theorem qw482 : Cond.instanceMethod yX5_clause ∈ wA := zw 482 (by decide +kernel) (by decide +kernel)
set_option maxRecDepth 20000 in
theorem qw483 : Cond.code yX5_clause cX5_clause 3 (some .boolean) ∈ wA := zw 483 (by decide +kernel) (by decide +kernel)
set_option maxRecDepth 20000 in
theorem qw484 : Cond.methodLink RX5 35 yX9_takes ∈ wA := zw 484 (by decide +kernel) (by decide +kernel)
set_option maxRecDepth 20000 in
theorem qw584 : Cond.methodLink RX10 141 yX10_hasCourt ∈ wA := zw 584 (by decide +kernel) (by decide +kernel)
set_option maxRecDepth 20000 in
theorem qw586 : Cond.instanceMethod yX10_hasCourt ∈ wA := zw 586 (by decide +kernel) (by decide +kernel)
set_option maxRecDepth 20000 in
theorem qw587 : Cond.code yX10_hasCourt cX10_hasCourt 1 (some .boolean) ∈ wA := zw 587 (by decide +kernel) (by decide +kernel)
set_option maxRecDepth 20000 in
theorem qw600 : Cond.methodLink RX10 184 yX10_isPainter ∈ wA := zw 600 (by decide +kernel) (by decide +kernel)
set_option maxRecDepth 20000 in
theorem qw602 : Cond.instanceMethod yX10_isPainter ∈ wA := zw 602 (by decide +kernel) (by decide +kernel)
set_option maxRecDepth 20000 in
theorem qw603 : Cond.code yX10_isPainter cX10_isPainter 2 (some .boolean) ∈ wA := zw 603 (by decide +kernel) (by decide +kernel)
set_option maxRecDepth 20000 in
theorem qw625 : Cond.methodLink RX10 154 yX10_isBride ∈ wA := zw 625 (by decide +kernel) (by decide +kernel)
set_option maxRecDepth 20000 in
theorem qw627 : Cond.instanceMethod yX10_isBride ∈ wA := zw 627 (by decide +kernel) (by decide +kernel)
set_option maxRecDepth 20000 in
theorem qw628 : Cond.code yX10_isBride cX10_isBride 2 (some .boolean) ∈ wA := zw 628 (by decide +kernel) (by decide +kernel)
set_option maxRecDepth 20000 in
theorem qw684 : Cond.methodLink RX10 213 yX10_refuse ∈ wA := zw 684 (by decide +kernel) (by decide +kernel)
set_option maxRecDepth 20000 in
theorem qw686 : Cond.instanceMethod yX10_refuse ∈ wA := zw 686 (by decide +kernel) (by decide +kernel)
set_option maxRecDepth 20000 in
theorem qw687 : Cond.code yX10_refuse cX10_refuse 2 (some .int) ∈ wA := zw 687 (by decide +kernel) (by decide +kernel)
set_option maxRecDepth 20000 in
theorem qw714 : Cond.methodLink RX10 230 yX10_isDigit ∈ wA := zw 714 (by decide +kernel) (by decide +kernel)
set_option maxRecDepth 20000 in
theorem qw715 : Cond.static yX10_isDigit ∈ wA := zw 715 (by decide +kernel) (by decide +kernel)
set_option maxRecDepth 20000 in
theorem qw716 : Cond.code yX10_isDigit cX10_isDigit 1 (some .boolean) ∈ wA := zw 716 (by decide +kernel) (by decide +kernel)
set_option maxRecDepth 20000 in
theorem qw725 : Cond.methodLink RX10 233 yX10_paysToHear ∈ wA := zw 725 (by decide +kernel) (by decide +kernel)
set_option maxRecDepth 20000 in
theorem qw727 : Cond.instanceMethod yX10_paysToHear ∈ wA := zw 727 (by decide +kernel) (by decide +kernel)
set_option maxRecDepth 20000 in
theorem qw728 : Cond.code yX10_paysToHear cX10_paysToHear 5 (some .boolean) ∈ wA := zw 728 (by decide +kernel) (by decide +kernel)
set_option maxRecDepth 20000 in
theorem qw802 : Cond.methodLink RX10 272 yX0_takeBack ∈ wA := zw 802 (by decide +kernel) (by decide +kernel)
set_option maxRecDepth 20000 in
theorem qw803 : Cond.instanceMethod yX0_takeBack ∈ wA := zw 803 (by decide +kernel) (by decide +kernel)
set_option maxRecDepth 20000 in
theorem qw804 : Cond.selects RX0 yX0_takeBack yX0_takeBack ∈ wA := zw 804 (by decide +kernel) (by decide +kernel)
set_option maxRecDepth 20000 in
theorem qw805 : Cond.code yX0_takeBack cX0_takeBack 2 (some .boolean) ∈ wA := zw 805 (by decide +kernel) (by decide +kernel)
set_option maxRecDepth 20000 in
theorem qw931 : Cond.methodLink RX10 310 yX10_canPlay ∈ wA := zw 931 (by decide +kernel) (by decide +kernel)
set_option maxRecDepth 20000 in
theorem qw933 : Cond.instanceMethod yX10_canPlay ∈ wA := zw 933 (by decide +kernel) (by decide +kernel)
set_option maxRecDepth 20000 in
theorem qw934 : Cond.code yX10_canPlay cX10_canPlay 4 (some .boolean) ∈ wA := zw 934 (by decide +kernel) (by decide +kernel)
set_option maxRecDepth 20000 in
theorem qw935 : Cond.constant RX10 313 (-1000000) ∈ wA := zw 935 (by decide +kernel) (by decide +kernel)
set_option maxRecDepth 20000 in
theorem qw1126 : Cond.methodLink RX11 3 objectInit ∈ wA := zw 1126 (by decide +kernel) (by decide +kernel)
set_option maxRecDepth 20000 in
theorem qw1127 : Cond.fieldLink RX11 83 "NinePortraitsModel" "thrown" "I" ∈ wA := zw 1127 (by decide +kernel) (by decide +kernel)
set_option maxRecDepth 20000 in
theorem qw1128 : Cond.fieldLink RX11 9 "NinePortraitsModel" "tape" "[I" ∈ wA := zw 1128 (by decide +kernel) (by decide +kernel)
set_option maxRecDepth 20000 in
theorem qw1129 : Cond.fieldLink RX11 90 "NinePortraitsModel" "size" "I" ∈ wA := zw 1129 (by decide +kernel) (by decide +kernel)
set_option maxRecDepth 20000 in
theorem qw1130 : Cond.fieldLink RX11 93 "NinePortraitsModel" "at" "I" ∈ wA := zw 1130 (by decide +kernel) (by decide +kernel)
set_option maxRecDepth 20000 in
theorem qw1131 : Cond.fieldLink RX11 100 "NinePortraitsModel" "wrong" "I" ∈ wA := zw 1131 (by decide +kernel) (by decide +kernel)
set_option maxRecDepth 20000 in
theorem qw1132 : Cond.fieldLink RX11 106 "NinePortraitsModel" "deep" "I" ∈ wA := zw 1132 (by decide +kernel) (by decide +kernel)
set_option maxRecDepth 20000 in
theorem qw1133 : Cond.fieldLink RX11 13 "NinePortraitsModel" "code" "[I" ∈ wA := zw 1133 (by decide +kernel) (by decide +kernel)
set_option maxRecDepth 20000 in
theorem qw1134 : Cond.fieldLink RX11 16 "NinePortraitsModel" "value" "[I" ∈ wA := zw 1134 (by decide +kernel) (by decide +kernel)
set_option maxRecDepth 20000 in
theorem qw1135 : Cond.fieldLink RX11 19 "NinePortraitsModel" "codes" "[I" ∈ wA := zw 1135 (by decide +kernel) (by decide +kernel)
set_option maxRecDepth 20000 in
theorem qw1136 : Cond.fieldLink RX11 22 "NinePortraitsModel" "clauses" "[I" ∈ wA := zw 1136 (by decide +kernel) (by decide +kernel)
set_option maxRecDepth 20000 in
theorem qw1137 : Cond.fieldLink RX11 25 "NinePortraitsModel" "testFrom" "[I" ∈ wA := zw 1137 (by decide +kernel) (by decide +kernel)
set_option maxRecDepth 20000 in
theorem qw1138 : Cond.fieldLink RX11 28 "NinePortraitsModel" "sumFrom" "[I" ∈ wA := zw 1138 (by decide +kernel) (by decide +kernel)
set_option maxRecDepth 20000 in
theorem qw1139 : Cond.fieldLink RX11 31 "NinePortraitsModel" "sumTo" "[I" ∈ wA := zw 1139 (by decide +kernel) (by decide +kernel)
set_option maxRecDepth 20000 in
theorem qw1140 : Cond.fieldLink RX11 257 "NinePortraitsModel" "laws" "I" ∈ wA := zw 1140 (by decide +kernel) (by decide +kernel)
set_option maxRecDepth 20000 in
theorem qw1141 : Cond.fieldLink RX11 103 "NinePortraitsModel" "text" "I" ∈ wA := zw 1141 (by decide +kernel) (by decide +kernel)
set_option maxRecDepth 20000 in
theorem qw1142 : Cond.fieldLink RX11 34 "NinePortraitsModel" "letters" "[I" ∈ wA := zw 1142 (by decide +kernel) (by decide +kernel)
set_option maxRecDepth 20000 in
theorem qw1143 : Cond.fieldLink RX11 37 "NinePortraitsModel" "stack" "[I" ∈ wA := zw 1143 (by decide +kernel) (by decide +kernel)
set_option maxRecDepth 20000 in
theorem qw1144 : Cond.fieldLink RX11 40 "NinePortraitsModel" "readRule" "[I" ∈ wA := zw 1144 (by decide +kernel) (by decide +kernel)
set_option maxRecDepth 20000 in
theorem qw1145 : Cond.fieldLink RX11 43 "NinePortraitsModel" "readBride" "[I" ∈ wA := zw 1145 (by decide +kernel) (by decide +kernel)
set_option maxRecDepth 20000 in
theorem qw1146 : Cond.fieldLink RX11 46 "NinePortraitsModel" "readPainter" "[I" ∈ wA := zw 1146 (by decide +kernel) (by decide +kernel)
set_option maxRecDepth 20000 in
theorem qw1147 : Cond.fieldLink RX11 219 "NinePortraitsModel" "readBrides" "I" ∈ wA := zw 1147 (by decide +kernel) (by decide +kernel)
set_option maxRecDepth 20000 in
theorem qw1148 : Cond.fieldLink RX11 222 "NinePortraitsModel" "readPainters" "I" ∈ wA := zw 1148 (by decide +kernel) (by decide +kernel)
set_option maxRecDepth 20000 in
theorem qw1149 : Cond.fieldLink RX11 49 "NinePortraitsModel" "rule" "[I" ∈ wA := zw 1149 (by decide +kernel) (by decide +kernel)
set_option maxRecDepth 20000 in
theorem qw1150 : Cond.fieldLink RX11 52 "NinePortraitsModel" "bride" "[I" ∈ wA := zw 1150 (by decide +kernel) (by decide +kernel)
set_option maxRecDepth 20000 in
theorem qw1151 : Cond.fieldLink RX11 55 "NinePortraitsModel" "painter" "[I" ∈ wA := zw 1151 (by decide +kernel) (by decide +kernel)
set_option maxRecDepth 20000 in
theorem qw1152 : Cond.fieldLink RX11 235 "NinePortraitsModel" "brides" "I" ∈ wA := zw 1152 (by decide +kernel) (by decide +kernel)
set_option maxRecDepth 20000 in
theorem qw1153 : Cond.fieldLink RX11 238 "NinePortraitsModel" "painters" "I" ∈ wA := zw 1153 (by decide +kernel) (by decide +kernel)
set_option maxRecDepth 20000 in
theorem qw1154 : Cond.fieldLink RX11 58 "NinePortraitsModel" "now" "[I" ∈ wA := zw 1154 (by decide +kernel) (by decide +kernel)
set_option maxRecDepth 20000 in
theorem qw1155 : Cond.fieldLink RX11 61 "NinePortraitsModel" "refused" "[I" ∈ wA := zw 1155 (by decide +kernel) (by decide +kernel)
set_option maxRecDepth 20000 in
theorem qw1156 : Cond.fieldLink RX11 64 "NinePortraitsModel" "holding" "I" ∈ wA := zw 1156 (by decide +kernel) (by decide +kernel)
set_option maxRecDepth 20000 in
theorem qw1157 : Cond.fieldLink RX11 319 "NinePortraitsModel" "bribes" "I" ∈ wA := zw 1157 (by decide +kernel) (by decide +kernel)
set_option maxRecDepth 20000 in
theorem qw1158 : Cond.fieldLink RX11 68 "NinePortraitsModel" "kept" "[I" ∈ wA := zw 1158 (by decide +kernel) (by decide +kernel)
set_option maxRecDepth 20000 in
theorem qw1159 : Cond.fieldLink RX11 247 "NinePortraitsModel" "acts" "I" ∈ wA := zw 1159 (by decide +kernel) (by decide +kernel)
set_option maxRecDepth 20000 in
theorem qw1161 : Cond.fieldLink RX11 71 "NinePortraitsModel" "beliefs" "[I" ∈ wA := zw 1161 (by decide +kernel) (by decide +kernel)
set_option maxRecDepth 20000 in
theorem qw1164 : Cond.fieldLink RX11 74 "NinePortraitsModel" "askedBy" "[I" ∈ wA := zw 1164 (by decide +kernel) (by decide +kernel)
set_option maxRecDepth 20000 in
theorem qw1165 : Cond.fieldLink RX11 77 "NinePortraitsModel" "holdsOne" "[I" ∈ wA := zw 1165 (by decide +kernel) (by decide +kernel)
set_option maxRecDepth 20000 in
theorem qw1166 : Cond.fieldLink RX11 80 "NinePortraitsModel" "image" "[I" ∈ wA := zw 1166 (by decide +kernel) (by decide +kernel)
set_option maxRecDepth 20000 in
theorem qw1167 : Cond.fieldLink RX11 250 "NinePortraitsModel" "hasImage" "Z" ∈ wA := zw 1167 (by decide +kernel) (by decide +kernel)
set_option maxRecDepth 20000 in
theorem qw1270 : Cond.methodLink RX11 229 yX11_readCourt ∈ wA := zw 1270 (by decide +kernel) (by decide +kernel)
set_option maxRecDepth 20000 in
theorem qw1272 : Cond.instanceMethod yX11_readCourt ∈ wA := zw 1272 (by decide +kernel) (by decide +kernel)
set_option maxRecDepth 20000 in
theorem qw1273 : Cond.code yX11_readCourt cX11_readCourt 4 (some .int) ∈ wA := zw 1273 (by decide +kernel) (by decide +kernel)
set_option maxRecDepth 20000 in
theorem qw1274 : Cond.methodLink RX11 202 yX11_usual ∈ wA := zw 1274 (by decide +kernel) (by decide +kernel)
set_option maxRecDepth 20000 in
theorem qw1275 : Cond.static yX11_usual ∈ wA := zw 1275 (by decide +kernel) (by decide +kernel)
set_option maxRecDepth 20000 in
theorem qw1276 : Cond.code yX11_usual cX11_usual 2 (some .int) ∈ wA := zw 1276 (by decide +kernel) (by decide +kernel)
set_option maxRecDepth 20000 in
theorem qw1277 : Cond.methodLink RX11 112 yX11_look ∈ wA := zw 1277 (by decide +kernel) (by decide +kernel)
set_option maxRecDepth 20000 in
theorem qw1279 : Cond.instanceMethod yX11_look ∈ wA := zw 1279 (by decide +kernel) (by decide +kernel)
set_option maxRecDepth 20000 in
theorem qw1280 : Cond.code yX11_look cX11_look 1 (some .int) ∈ wA := zw 1280 (by decide +kernel) (by decide +kernel)
set_option maxRecDepth 20000 in
theorem qw1281 : Cond.methodLink RX11 96 yX11_here ∈ wA := zw 1281 (by decide +kernel) (by decide +kernel)
set_option maxRecDepth 20000 in
theorem qw1283 : Cond.instanceMethod yX11_here ∈ wA := zw 1283 (by decide +kernel) (by decide +kernel)
set_option maxRecDepth 20000 in
theorem qw1284 : Cond.code yX11_here cX11_here 1 (some .int) ∈ wA := zw 1284 (by decide +kernel) (by decide +kernel)
set_option maxRecDepth 20000 in
theorem qw1305 : Cond.methodLink RX11 109 yX11_bad ∈ wA := zw 1305 (by decide +kernel) (by decide +kernel)
set_option maxRecDepth 20000 in
theorem qw1307 : Cond.instanceMethod yX11_bad ∈ wA := zw 1307 (by decide +kernel) (by decide +kernel)
set_option maxRecDepth 20000 in
theorem qw1308 : Cond.code yX11_bad cX11_bad 1 none ∈ wA := zw 1308 (by decide +kernel) (by decide +kernel)
set_option maxRecDepth 20000 in
theorem qw1309 : Cond.methodLink RX11 198 yX11_in ∈ wA := zw 1309 (by decide +kernel) (by decide +kernel)
set_option maxRecDepth 20000 in
theorem qw1310 : Cond.static yX11_in ∈ wA := zw 1310 (by decide +kernel) (by decide +kernel)
set_option maxRecDepth 20000 in
theorem qw1311 : Cond.code yX11_in cX11_in 3 (some .boolean) ∈ wA := zw 1311 (by decide +kernel) (by decide +kernel)
set_option maxRecDepth 20000 in
theorem qw1312 : Cond.methodLink RX11 232 yX11_readLaw ∈ wA := zw 1312 (by decide +kernel) (by decide +kernel)
set_option maxRecDepth 20000 in
theorem qw1314 : Cond.instanceMethod yX11_readLaw ∈ wA := zw 1314 (by decide +kernel) (by decide +kernel)
set_option maxRecDepth 20000 in
theorem qw1315 : Cond.code yX11_readLaw cX11_readLaw 2 (some .int) ∈ wA := zw 1315 (by decide +kernel) (by decide +kernel)
set_option maxRecDepth 20000 in
theorem qw1316 : Cond.methodLink RX11 164 yX11_open ∈ wA := zw 1316 (by decide +kernel) (by decide +kernel)
set_option maxRecDepth 20000 in
theorem qw1318 : Cond.instanceMethod yX11_open ∈ wA := zw 1318 (by decide +kernel) (by decide +kernel)
set_option maxRecDepth 20000 in
theorem qw1319 : Cond.code yX11_open cX11_open 2 none ∈ wA := zw 1319 (by decide +kernel) (by decide +kernel)
set_option maxRecDepth 20000 in
theorem qw1320 : Cond.methodLink RX11 167 yX11_clause ∈ wA := zw 1320 (by decide +kernel) (by decide +kernel)
set_option maxRecDepth 20000 in
theorem qw1322 : Cond.instanceMethod yX11_clause ∈ wA := zw 1322 (by decide +kernel) (by decide +kernel)
set_option maxRecDepth 20000 in
theorem qw1323 : Cond.code yX11_clause cX11_clause 3 none ∈ wA := zw 1323 (by decide +kernel) (by decide +kernel)
set_option maxRecDepth 20000 in
theorem qw1378 : Cond.methodLink RX11 170 yX11_atEnd ∈ wA := zw 1378 (by decide +kernel) (by decide +kernel)
set_option maxRecDepth 20000 in
theorem qw1380 : Cond.instanceMethod yX11_atEnd ∈ wA := zw 1380 (by decide +kernel) (by decide +kernel)
set_option maxRecDepth 20000 in
theorem qw1381 : Cond.code yX11_atEnd cX11_atEnd 1 (some .int) ∈ wA := zw 1381 (by decide +kernel) (by decide +kernel)
set_option maxRecDepth 20000 in
theorem qw1406 : Cond.methodLink RX11 263 yX11_isBride ∈ wA := zw 1406 (by decide +kernel) (by decide +kernel)
set_option maxRecDepth 20000 in
theorem qw1408 : Cond.instanceMethod yX11_isBride ∈ wA := zw 1408 (by decide +kernel) (by decide +kernel)
set_option maxRecDepth 20000 in
theorem qw1409 : Cond.code yX11_isBride cX11_isBride 2 (some .boolean) ∈ wA := zw 1409 (by decide +kernel) (by decide +kernel)
set_option maxRecDepth 20000 in
theorem qw1414 : Cond.methodLink RX11 260 yX11_isPainter ∈ wA := zw 1414 (by decide +kernel) (by decide +kernel)
set_option maxRecDepth 20000 in
theorem qw1416 : Cond.instanceMethod yX11_isPainter ∈ wA := zw 1416 (by decide +kernel) (by decide +kernel)
set_option maxRecDepth 20000 in
theorem qw1417 : Cond.code yX11_isPainter cX11_isPainter 2 (some .boolean) ∈ wA := zw 1417 (by decide +kernel) (by decide +kernel)
set_option maxRecDepth 20000 in
theorem qw1426 : Cond.methodLink RX11 286 yX11_areBoth ∈ wA := zw 1426 (by decide +kernel) (by decide +kernel)
set_option maxRecDepth 20000 in
theorem qw1428 : Cond.instanceMethod yX11_areBoth ∈ wA := zw 1428 (by decide +kernel) (by decide +kernel)
set_option maxRecDepth 20000 in
theorem qw1429 : Cond.code yX11_areBoth cX11_areBoth 3 (some .boolean) ∈ wA := zw 1429 (by decide +kernel) (by decide +kernel)
set_option maxRecDepth 20000 in
theorem qw1485 : Cond.methodLink RX11 295 yX11_isRefused ∈ wA := zw 1485 (by decide +kernel) (by decide +kernel)
set_option maxRecDepth 20000 in
theorem qw1487 : Cond.instanceMethod yX11_isRefused ∈ wA := zw 1487 (by decide +kernel) (by decide +kernel)
set_option maxRecDepth 20000 in
theorem qw1488 : Cond.code yX11_isRefused cX11_isRefused 2 (some .boolean) ∈ wA := zw 1488 (by decide +kernel) (by decide +kernel)
set_option maxRecDepth 20000 in
theorem qw1509 : Cond.methodLink RX11 304 yX11_isTold ∈ wA := zw 1509 (by decide +kernel) (by decide +kernel)
set_option maxRecDepth 20000 in
theorem qw1511 : Cond.instanceMethod yX11_isTold ∈ wA := zw 1511 (by decide +kernel) (by decide +kernel)
set_option maxRecDepth 20000 in
theorem qw1512 : Cond.code yX11_isTold cX11_isTold 4 (some .boolean) ∈ wA := zw 1512 (by decide +kernel) (by decide +kernel)
set_option maxRecDepth 20000 in
theorem qw1662 : Cond.methodLink RX11 383 yX11_areTwo ∈ wA := zw 1662 (by decide +kernel) (by decide +kernel)
set_option maxRecDepth 20000 in
theorem qw1664 : Cond.instanceMethod yX11_areTwo ∈ wA := zw 1664 (by decide +kernel) (by decide +kernel)
set_option maxRecDepth 20000 in
theorem qw1665 : Cond.code yX11_areTwo cX11_areTwo 4 (some .boolean) ∈ wA := zw 1665 (by decide +kernel) (by decide +kernel)
set_option maxRecDepth 20000 in
theorem qw1666 : Cond.constant RX11 386 (-1000000) ∈ wA := zw 1666 (by decide +kernel) (by decide +kernel)
theorem hd_X0_init : yX0_init.cls = RX0 ∧ yX0_init.cls ≠ "java/lang/invoke/MethodHandle" ∧ yX0_init.cls ≠ "java/lang/invoke/VarHandle" ∧ (parseMethodDescriptor yX0_init.desc).map (fun d => d.parameters.length) = some 0 := by decide +kernel
theorem hd_X0_takeBack : yX0_takeBack.cls = RX0 ∧ yX0_takeBack.cls ≠ "java/lang/invoke/MethodHandle" ∧ yX0_takeBack.cls ≠ "java/lang/invoke/VarHandle" ∧ (parseMethodDescriptor yX0_takeBack.desc).map (fun d => d.parameters.length) = some 1 := by decide +kernel
theorem hd_X10_canPlay : yX10_canPlay.cls = RX10 ∧ yX10_canPlay.cls ≠ "java/lang/invoke/MethodHandle" ∧ yX10_canPlay.cls ≠ "java/lang/invoke/VarHandle" ∧ (parseMethodDescriptor yX10_canPlay.desc).map (fun d => d.parameters.length) = some 3 := by decide +kernel
theorem hd_X10_hasCourt : yX10_hasCourt.cls = RX10 ∧ yX10_hasCourt.cls ≠ "java/lang/invoke/MethodHandle" ∧ yX10_hasCourt.cls ≠ "java/lang/invoke/VarHandle" ∧ (parseMethodDescriptor yX10_hasCourt.desc).map (fun d => d.parameters.length) = some 0 := by decide +kernel
theorem hd_X10_isBride : yX10_isBride.cls = RX10 ∧ yX10_isBride.cls ≠ "java/lang/invoke/MethodHandle" ∧ yX10_isBride.cls ≠ "java/lang/invoke/VarHandle" ∧ (parseMethodDescriptor yX10_isBride.desc).map (fun d => d.parameters.length) = some 1 := by decide +kernel
theorem hd_X10_isDigit : yX10_isDigit.cls = RX10 ∧ yX10_isDigit.cls ≠ "java/lang/invoke/MethodHandle" ∧ yX10_isDigit.cls ≠ "java/lang/invoke/VarHandle" ∧ (parseMethodDescriptor yX10_isDigit.desc).map (fun d => d.parameters.length) = some 1 := by decide +kernel
theorem hd_X10_isPainter : yX10_isPainter.cls = RX10 ∧ yX10_isPainter.cls ≠ "java/lang/invoke/MethodHandle" ∧ yX10_isPainter.cls ≠ "java/lang/invoke/VarHandle" ∧ (parseMethodDescriptor yX10_isPainter.desc).map (fun d => d.parameters.length) = some 1 := by decide +kernel
theorem hd_X10_paysToHear : yX10_paysToHear.cls = RX10 ∧ yX10_paysToHear.cls ≠ "java/lang/invoke/MethodHandle" ∧ yX10_paysToHear.cls ≠ "java/lang/invoke/VarHandle" ∧ (parseMethodDescriptor yX10_paysToHear.desc).map (fun d => d.parameters.length) = some 3 := by decide +kernel
theorem hd_X10_refuse : yX10_refuse.cls = RX10 ∧ yX10_refuse.cls ≠ "java/lang/invoke/MethodHandle" ∧ yX10_refuse.cls ≠ "java/lang/invoke/VarHandle" ∧ (parseMethodDescriptor yX10_refuse.desc).map (fun d => d.parameters.length) = some 1 := by decide +kernel
theorem hd_X11_areBoth : yX11_areBoth.cls = RX11 ∧ yX11_areBoth.cls ≠ "java/lang/invoke/MethodHandle" ∧ yX11_areBoth.cls ≠ "java/lang/invoke/VarHandle" ∧ (parseMethodDescriptor yX11_areBoth.desc).map (fun d => d.parameters.length) = some 2 := by decide +kernel
theorem hd_X11_areTwo : yX11_areTwo.cls = RX11 ∧ yX11_areTwo.cls ≠ "java/lang/invoke/MethodHandle" ∧ yX11_areTwo.cls ≠ "java/lang/invoke/VarHandle" ∧ (parseMethodDescriptor yX11_areTwo.desc).map (fun d => d.parameters.length) = some 3 := by decide +kernel
theorem hd_X11_atEnd : yX11_atEnd.cls = RX11 ∧ yX11_atEnd.cls ≠ "java/lang/invoke/MethodHandle" ∧ yX11_atEnd.cls ≠ "java/lang/invoke/VarHandle" ∧ (parseMethodDescriptor yX11_atEnd.desc).map (fun d => d.parameters.length) = some 0 := by decide +kernel
theorem hd_X11_bad : yX11_bad.cls = RX11 ∧ yX11_bad.cls ≠ "java/lang/invoke/MethodHandle" ∧ yX11_bad.cls ≠ "java/lang/invoke/VarHandle" ∧ (parseMethodDescriptor yX11_bad.desc).map (fun d => d.parameters.length) = some 0 := by decide +kernel
theorem hd_X11_clause : yX11_clause.cls = RX11 ∧ yX11_clause.cls ≠ "java/lang/invoke/MethodHandle" ∧ yX11_clause.cls ≠ "java/lang/invoke/VarHandle" ∧ (parseMethodDescriptor yX11_clause.desc).map (fun d => d.parameters.length) = some 0 := by decide +kernel
theorem hd_X11_here : yX11_here.cls = RX11 ∧ yX11_here.cls ≠ "java/lang/invoke/MethodHandle" ∧ yX11_here.cls ≠ "java/lang/invoke/VarHandle" ∧ (parseMethodDescriptor yX11_here.desc).map (fun d => d.parameters.length) = some 0 := by decide +kernel
theorem hd_X11_in : yX11_in.cls = RX11 ∧ yX11_in.cls ≠ "java/lang/invoke/MethodHandle" ∧ yX11_in.cls ≠ "java/lang/invoke/VarHandle" ∧ (parseMethodDescriptor yX11_in.desc).map (fun d => d.parameters.length) = some 3 := by decide +kernel
theorem hd_X11_isBride : yX11_isBride.cls = RX11 ∧ yX11_isBride.cls ≠ "java/lang/invoke/MethodHandle" ∧ yX11_isBride.cls ≠ "java/lang/invoke/VarHandle" ∧ (parseMethodDescriptor yX11_isBride.desc).map (fun d => d.parameters.length) = some 1 := by decide +kernel
theorem hd_X11_isPainter : yX11_isPainter.cls = RX11 ∧ yX11_isPainter.cls ≠ "java/lang/invoke/MethodHandle" ∧ yX11_isPainter.cls ≠ "java/lang/invoke/VarHandle" ∧ (parseMethodDescriptor yX11_isPainter.desc).map (fun d => d.parameters.length) = some 1 := by decide +kernel
theorem hd_X11_isRefused : yX11_isRefused.cls = RX11 ∧ yX11_isRefused.cls ≠ "java/lang/invoke/MethodHandle" ∧ yX11_isRefused.cls ≠ "java/lang/invoke/VarHandle" ∧ (parseMethodDescriptor yX11_isRefused.desc).map (fun d => d.parameters.length) = some 1 := by decide +kernel
theorem hd_X11_isTold : yX11_isTold.cls = RX11 ∧ yX11_isTold.cls ≠ "java/lang/invoke/MethodHandle" ∧ yX11_isTold.cls ≠ "java/lang/invoke/VarHandle" ∧ (parseMethodDescriptor yX11_isTold.desc).map (fun d => d.parameters.length) = some 3 := by decide +kernel
theorem hd_X11_look : yX11_look.cls = RX11 ∧ yX11_look.cls ≠ "java/lang/invoke/MethodHandle" ∧ yX11_look.cls ≠ "java/lang/invoke/VarHandle" ∧ (parseMethodDescriptor yX11_look.desc).map (fun d => d.parameters.length) = some 0 := by decide +kernel
theorem hd_X11_open : yX11_open.cls = RX11 ∧ yX11_open.cls ≠ "java/lang/invoke/MethodHandle" ∧ yX11_open.cls ≠ "java/lang/invoke/VarHandle" ∧ (parseMethodDescriptor yX11_open.desc).map (fun d => d.parameters.length) = some 1 := by decide +kernel
theorem hd_X11_readCourt : yX11_readCourt.cls = RX11 ∧ yX11_readCourt.cls ≠ "java/lang/invoke/MethodHandle" ∧ yX11_readCourt.cls ≠ "java/lang/invoke/VarHandle" ∧ (parseMethodDescriptor yX11_readCourt.desc).map (fun d => d.parameters.length) = some 0 := by decide +kernel
theorem hd_X11_readLaw : yX11_readLaw.cls = RX11 ∧ yX11_readLaw.cls ≠ "java/lang/invoke/MethodHandle" ∧ yX11_readLaw.cls ≠ "java/lang/invoke/VarHandle" ∧ (parseMethodDescriptor yX11_readLaw.desc).map (fun d => d.parameters.length) = some 1 := by decide +kernel
theorem hd_X11_usual : yX11_usual.cls = RX11 ∧ yX11_usual.cls ≠ "java/lang/invoke/MethodHandle" ∧ yX11_usual.cls ≠ "java/lang/invoke/VarHandle" ∧ (parseMethodDescriptor yX11_usual.desc).map (fun d => d.parameters.length) = some 2 := by decide +kernel
theorem hd_X1_init : yX1_init.cls = RX1 ∧ yX1_init.cls ≠ "java/lang/invoke/MethodHandle" ∧ yX1_init.cls ≠ "java/lang/invoke/VarHandle" ∧ (parseMethodDescriptor yX1_init.desc).map (fun d => d.parameters.length) = some 0 := by decide +kernel
theorem hd_X2_clause : yX2_clause.cls = RX2 ∧ yX2_clause.cls ≠ "java/lang/invoke/MethodHandle" ∧ yX2_clause.cls ≠ "java/lang/invoke/VarHandle" ∧ (parseMethodDescriptor yX2_clause.desc).map (fun d => d.parameters.length) = some 0 := by decide +kernel
theorem hd_X2_init : yX2_init.cls = RX2 ∧ yX2_init.cls ≠ "java/lang/invoke/MethodHandle" ∧ yX2_init.cls ≠ "java/lang/invoke/VarHandle" ∧ (parseMethodDescriptor yX2_init.desc).map (fun d => d.parameters.length) = some 0 := by decide +kernel
theorem hd_X2_read : yX2_read.cls = RX2 ∧ yX2_read.cls ≠ "java/lang/invoke/MethodHandle" ∧ yX2_read.cls ≠ "java/lang/invoke/VarHandle" ∧ (parseMethodDescriptor yX2_read.desc).map (fun d => d.parameters.length) = some 2 := by decide +kernel
theorem hd_X3_init : yX3_init.cls = RX3 ∧ yX3_init.cls ≠ "java/lang/invoke/MethodHandle" ∧ yX3_init.cls ≠ "java/lang/invoke/VarHandle" ∧ (parseMethodDescriptor yX3_init.desc).map (fun d => d.parameters.length) = some 0 := by decide +kernel
theorem hd_X5_clause : yX5_clause.cls = RX5 ∧ yX5_clause.cls ≠ "java/lang/invoke/MethodHandle" ∧ yX5_clause.cls ≠ "java/lang/invoke/VarHandle" ∧ (parseMethodDescriptor yX5_clause.desc).map (fun d => d.parameters.length) = some 0 := by decide +kernel
theorem hd_X5_init : yX5_init.cls = RX5 ∧ yX5_init.cls ≠ "java/lang/invoke/MethodHandle" ∧ yX5_init.cls ≠ "java/lang/invoke/VarHandle" ∧ (parseMethodDescriptor yX5_init.desc).map (fun d => d.parameters.length) = some 0 := by decide +kernel
theorem hd_X5_read : yX5_read.cls = RX5 ∧ yX5_read.cls ≠ "java/lang/invoke/MethodHandle" ∧ yX5_read.cls ≠ "java/lang/invoke/VarHandle" ∧ (parseMethodDescriptor yX5_read.desc).map (fun d => d.parameters.length) = some 1 := by decide +kernel
theorem hd_X6_init : yX6_init.cls = RX6 ∧ yX6_init.cls ≠ "java/lang/invoke/MethodHandle" ∧ yX6_init.cls ≠ "java/lang/invoke/VarHandle" ∧ (parseMethodDescriptor yX6_init.desc).map (fun d => d.parameters.length) = some 3 := by decide +kernel
theorem hd_X7_init : yX7_init.cls = RX7 ∧ yX7_init.cls ≠ "java/lang/invoke/MethodHandle" ∧ yX7_init.cls ≠ "java/lang/invoke/VarHandle" ∧ (parseMethodDescriptor yX7_init.desc).map (fun d => d.parameters.length) = some 0 := by decide +kernel
theorem hd_X8_init : yX8_init.cls = RX8 ∧ yX8_init.cls ≠ "java/lang/invoke/MethodHandle" ∧ yX8_init.cls ≠ "java/lang/invoke/VarHandle" ∧ (parseMethodDescriptor yX8_init.desc).map (fun d => d.parameters.length) = some 2 := by decide +kernel
theorem hd_X9_init : yX9_init.cls = RX9 ∧ yX9_init.cls ≠ "java/lang/invoke/MethodHandle" ∧ yX9_init.cls ≠ "java/lang/invoke/VarHandle" ∧ (parseMethodDescriptor yX9_init.desc).map (fun d => d.parameters.length) = some 0 := by decide +kernel
theorem hd_X9_peek : yX9_peek.cls = RX9 ∧ yX9_peek.cls ≠ "java/lang/invoke/MethodHandle" ∧ yX9_peek.cls ≠ "java/lang/invoke/VarHandle" ∧ (parseMethodDescriptor yX9_peek.desc).map (fun d => d.parameters.length) = some 0 := by decide +kernel
theorem hd_X9_takes : yX9_takes.cls = RX9 ∧ yX9_takes.cls ≠ "java/lang/invoke/MethodHandle" ∧ yX9_takes.cls ≠ "java/lang/invoke/VarHandle" ∧ (parseMethodDescriptor yX9_takes.desc).map (fun d => d.parameters.length) = some 1 := by decide +kernel
/-- the words that a constructor needs beside the tables' good ones: its nest mates' constructors, the array of laws -/
def zE (U : State) : Prop := va_Nw (.methodLinkNest RX10 9 yX9_init "NinePortraits") U ∧ va_Nw (.methodLinkNest RX10 18 yX2_init "NinePortraits") U ∧ va_Nw (.methodLinkNest RX10 25 yX5_init "NinePortraits") U ∧ va_Nw (.methodLinkNest RX10 32 yX1_init "NinePortraits") U ∧ va_Nw (.methodLinkNest RX10 48 yX7_init "NinePortraits") U ∧ va_Nw (.methodLinkNest RX10 58 yX0_init "NinePortraits") U ∧ va_Nw (.methodLinkNest RX10 83 yX3_init "NinePortraits") U ∧ va_AO "NinePortraits$Law" U
theorem zE_same {u U : State} (h : u.vm = U.vm) (z : zE u) : zE U := by
  obtain ⟨h1, h2, h3, h4, h5, h6, h7, h8⟩ := z
  exact ⟨h1.same rfl h, h2.same rfl h, h3.same rfl h, h4.same rfl h, h5.same rfl h, h6.same rfl h, h7.same rfl h, va_AO.moved (by rw [h]; exact Vm.Alike.refl U.vm) h8⟩
theorem zE_warm {s U : State} (hW : s.WarmedH U.vm) (z : zE s) : zE U := by
  obtain ⟨h1, h2, h3, h4, h5, h6, h7, h8⟩ := z
  exact ⟨h1.warmM hW, h2.warmM hW, h3.warmM hW, h4.warmM hW, h5.warmM hW, h6.warmM hW, h7.warmM hW, va_AO.moved hW.alike h8⟩
def zPE (D : va_G) (ts : List (ClassId × FieldType)) (av : List Value) (sz : Nat) (ws : va_W) : Array Value → State → Prop := fun v U => zP D ts av sz ws v U ∧ zE U
theorem zPES {D : va_G} {ts : List (ClassId × FieldType)} {As : List Value} {ws : va_W} {s : State} {H : Heap} {A : Nat → Prop} (hP : va_P D vwCl ws H) (hK : va_K D vwCl ts s) (hD : va_D A ws) (hE : zE s) : PreS s H (zPE D ts As H.size ws) As :=
  ⟨fun a U g mk q => ⟨zPb a U g mk q.1, zE_same (u := U) rfl q.2⟩, fun U hU hW => ⟨(zPS hP hK hD).2 U hU hW, zE_warm hW hE⟩⟩
