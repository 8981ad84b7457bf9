def wA : List Cond := lw_tbl.filter goodWord
theorem zw (i : Nat) {w : Cond} (h : lw_tbl[i]? = some w) (hg : goodWord w = true) : w ∈ wA := List.mem_filter.mpr ⟨List.mem_of_getElem? h, hg⟩
theorem zin {ws : List Cond} (ps : List Nat) (hp : ws = ps.filterMap (fun i => lw_tbl[i]?)) (h : ws.all goodWord = true) : ∀ w ∈ ws, w ∈ wA := by
  intro w hw
  have h1 := List.all_eq_true.mp h w hw
  rw [hp] at hw
  obtain ⟨i, -, hi⟩ := List.mem_filterMap.mp hw
  exact List.mem_filter.mpr ⟨List.mem_of_getElem? hi, h1⟩
theorem zgood {w : Cond} (h : w ∈ wA) : w ∈ wA ∧ ((w.onTables && w.keeps) = true ∨ ∃ ty, w = .arrayClass ty) := ⟨h, good_of_word (List.mem_filter.mp h).2⟩
theorem zgI {w : Cond} (hc : w ∈ wA) : GoodIn wA (w :: wA) := by
  intro v hv
  rcases List.mem_cons.mp hv with rfl | h
  · exact zgood hc
  · exact zgood h
theorem zgV {own C : String} {idx : Nat} {y : MethodName} {w : Cond} (h1 : Cond.methodLink own idx y ∈ wA) (h2 : Cond.instanceMethod y ∈ wA) (h3 : Cond.selects C y y ∈ wA) (h4 : Cond.initialized C ∈ wA) (hc : w ∈ wA) : GoodIn wA (wsV own idx C y (w :: wA)) := by
  intro v hv
  unfold wsV at hv
  rcases List.mem_append.mp hv with h | h
  · simp only [List.mem_cons, List.not_mem_nil, or_false] at h
    rcases h with rfl | rfl | rfl | rfl
    · exact zgood h1
    · exact zgood h2
    · exact zgood h3
    · exact zgood h4
  · exact zgI hc v h
theorem zgS {own : String} {idx : Nat} {y : MethodName} {w : Cond} (h1 : Cond.methodLink own idx y ∈ wA) (h2 : Cond.static y ∈ wA) (h4 : Cond.initialized own ∈ wA) (hc : w ∈ wA) : GoodIn wA (wsS own idx y (w :: wA)) := by
  intro v hv
  unfold wsS at hv
  rcases List.mem_append.mp hv with h | h
  · simp only [List.mem_cons, List.not_mem_nil, or_false] at h
    rcases h with rfl | rfl | rfl
    · exact zgood h1
    · exact zgood h2
    · exact zgood h4
  · exact zgI hc v h
/-- a method's start: the arguments, the heap's size, the world, the tables, the cells apart -/
def zP (D : va_G) (ts : List (ClassId × FieldType)) (av : List Value) (sz : Nat) (ws : va_W) : Array Value → State → Prop := va_Pc av (fun U => U.heap.size = sz ∧ va_P D vwCl ws U.heap ∧ va_K D vwCl ts U ∧ va_D (fun _ => True) ws)
theorem zPb {D : va_G} {ts : List (ClassId × FieldType)} {av : List Value} {sz : Nat} {ws : va_W} : FrameBlind (zP D ts av sz ws) := fun a U g mk q => by
  obtain ⟨q0, q1, qP, qK, qD⟩ := q
  exact ⟨q0, q1, qP, va_K.moved (u := U) (U := U.calling g mk a) (Vm.Alike.refl U.vm) qK, qD⟩
theorem zPS {D : va_G} {ts : List (ClassId × FieldType)} {As : List Value} {ws : va_W} {s : State} {H : Heap} {A : Nat → Prop} (hP : va_P D vwCl ws H) (hK : va_K D vwCl ts s) (hD : va_D A ws) : PreS s H (zP D ts As H.size ws) As :=
  ⟨zPb, fun U hU hW => ⟨rfl, by rw [hU], by rw [hU]; exact hP, va_K.moved hW.alike hK, hD.weaken (fun _ _ _ _ => trivial)⟩⟩
theorem zPV {D : va_G} {ts : List (ClassId × FieldType)} {As : List Value} {ws : va_W} {s : State} {H : Heap} {A : Nat → Prop} {C : String} {b : Addr} (hP : va_P D vwCl ws H) (hK : va_K D vwCl ts s) (hD : va_D A ws) (hr : ∃ cell : Cell, H[b]? = some cell ∧ cell.vm.isStatics = false ∧ s.vm.findClass C = some cell.cls) : PreV s H C b (zP D ts (.ref b :: As) H.size ws) As :=
  ⟨zPb, hr, fun U hU hW => ⟨rfl, by rw [hU], by rw [hU]; exact hP, va_K.moved hW.alike hK, hD.weaken (fun _ _ _ _ => trivial)⟩⟩
theorem zP0 {D : va_G} {cl : List vw_C} {H : Heap} : va_P D cl [] H := fun k q h => by simp at h
theorem zD0 {A : Nat → Prop} : va_D A [] := ⟨fun i j p q h => by simp at h, fun k q h => by simp at h⟩
theorem zfr {A : Nat → Prop} {H0 H : Heap} {locs : List Loc} (hS : va_S A H0 H locs) (hA : ∀ q : Nat, H0.size ≤ q → A q) : ∀ q, va_A [] H.size q → A q := by
  intro q h
  rcases h with ⟨k, e, h⟩ | h
  · simp at h
  · exact hA q (Nat.le_trans hS.1 h)
theorem zkeep {D : va_G} {cl : List vw_C} {ws : va_W} {H H1 : Heap} (hP : va_P D cl ws H) (hk : ∀ q : Nat, q < H.size → ¬ va_A [] H.size q → H1[q]? = H[q]?) : va_P D cl ws H1 := by
  refine hP.kept (fun k q hq => hk q.1 (hP k q hq).lt ?_)
  rintro (⟨i, e, h⟩ | h)
  · simp at h
  · exact absurd (hP k q hq).lt (Nat.not_lt.mpr h)
theorem zstart {p : Program} {l : Launch} {e : Env} {R : Room} {s : State} {m : MethodId} {args : Array Value} {below : List Frame} {meth : Method} {c : Code} {cells slots : Nat} {Q : State → Prop} {g : JFrame} (kk : ∀ H : Heap, H = s.heap → W p l e R s m args below meth c H [] cells slots Q g) : W p l e R s m args below meth c s.heap [] cells slots Q g := kk _ rfl
theorem z1 {x y : Int32} {a b : Int} (hx : x.toInt = a) (hy : y.toInt = b) (h : x < y) : a < b := by rw [← hx, ← hy]; exact Int32.lt_iff_toInt_lt.mp h
theorem z2 {x y : Int32} {a b : Int} (hx : x.toInt = a) (hy : y.toInt = b) (h : ¬ x < y) : b ≤ a := by rw [← hx, ← hy]; exact Int.not_lt.mp (fun q => h (Int32.lt_iff_toInt_lt.mpr q))
theorem z3 {x y : Int32} {a b : Int} (hx : x.toInt = a) (hy : y.toInt = b) (h : x ≤ y) : a ≤ b := by rw [← hx, ← hy]; exact Int32.le_iff_toInt_le.mp h
theorem z4 {x y : Int32} {a b : Int} (hx : x.toInt = a) (hy : y.toInt = b) (h : ¬ x ≤ y) : b < a := by rw [← hx, ← hy]; exact Int.not_le.mp (fun q => h (Int32.le_iff_toInt_le.mpr q))
theorem z5 {x y : Int32} {a b : Int} (hx : x.toInt = a) (hy : y.toInt = b) (h : x = y) : a = b := by rw [← hx, ← hy, h]
theorem z6 {x y : Int32} {a b : Int} (hx : x.toInt = a) (hy : y.toInt = b) (h : ¬ x = y) : ¬ a = b := by rw [← hx, ← hy]; exact fun q => h (Int32.toInt_inj.mp q)
theorem z7 {x k : Int32} {a : Int} (hk : k.toInt = a) (h : x.toInt = a) : x = k := Int32.toInt_inj.mp (by rw [h, hk])
theorem zsw (x : Int32) (lo hi : Int) : (x.toInt < lo ∨ hi < x.toInt) ∨ (lo ≤ x.toInt ∧ x.toInt ≤ hi) := by omega
theorem zcA {D : va_G} {cl : List vw_C} {tys : List (ClassId × FieldType)} {s : State} {ty : FieldType} {c1 c2 : ClassId} (hK : va_K D cl tys s) (i j : Nat) (h1 : tys[i]? = some (c1, ty)) (h2 : tys[j]? = some (c2, ty)) : c2 = c1 := by
  have a := (hK.2 i _ h1).2
  have b := (hK.2 j _ h2).2
  cases ty <;> first | exact Option.some.inj (b.symm.trans a) | (obtain ⟨_, _, _, _, _, a⟩ := a; obtain ⟨_, _, _, _, _, b⟩ := b; exact Option.some.inj (b.symm.trans a))
set_option maxRecDepth 20000 in
theorem iX0 : ∀ w ∈ u_ws RX0 TX0 3, w ∈ wA := zin [272, 274, 276] (by decide +kernel) (by decide +kernel)
theorem fsX0 : ∀ j, j < 3 → defaultValue (tyX0 j) = vp_V [.null, .int 0, .int 0] j := by decide +kernel
set_option maxRecDepth 20000 in
theorem iX1 : ∀ w ∈ u_ws RX1 TX1 5, w ∈ wA := zin [201, 203, 205, 207, 209] (by decide +kernel) (by decide +kernel)
theorem fsX1 : ∀ j, j < 5 → defaultValue (tyX1 j) = vp_V [.null, .null, .null, .int 0, .int 0] j := by decide +kernel
set_option maxRecDepth 20000 in
theorem iX2 : ∀ w ∈ u_ws RX2 TX2 3, w ∈ wA := zin [157, 159, 161] (by decide +kernel) (by decide +kernel)
theorem fsX2 : ∀ j, j < 3 → defaultValue (tyX2 j) = vp_V [.null, .null, .int 0] j := by decide +kernel
set_option maxRecDepth 20000 in
theorem iX3 : ∀ w ∈ u_ws RX3 TX3 1, w ∈ wA := zin [353] (by decide +kernel) (by decide +kernel)
theorem fsX3 : ∀ j, j < 1 → defaultValue (tyX3 j) = vp_V [.long 0] j := by decide +kernel
set_option maxRecDepth 20000 in
theorem iX4 : ∀ w ∈ u_ws RX4 TX4 1, w ∈ wA := zin [577] (by decide +kernel) (by decide +kernel)
theorem fsX4 : ∀ j, j < 1 → defaultValue (tyX4 j) = vp_V [.null] j := by decide +kernel
set_option maxRecDepth 20000 in
theorem iX5 : ∀ w ∈ u_ws RX5 TX5 3, w ∈ wA := zin [173, 175, 177] (by decide +kernel) (by decide +kernel)
theorem fsX5 : ∀ j, j < 3 → defaultValue (tyX5 j) = vp_V [.null, .int 0, .null] j := by decide +kernel
set_option maxRecDepth 20000 in
theorem iX6 : ∀ w ∈ u_ws RX6 TX6 9, w ∈ wA := zin [326, 328, 330, 332, 334, 336, 338, 340, 342] (by decide +kernel) (by decide +kernel)
theorem fsX6 : ∀ j, j < 9 → defaultValue (tyX6 j) = vp_V [.null, .null, .null, .null, .long 0, .int 0, .null, .null, .null] j := by decide +kernel
set_option maxRecDepth 20000 in
theorem iX7 : ∀ w ∈ u_ws RX7 TX7 9, w ∈ wA := zin [243, 245, 247, 249, 251, 253, 255, 257, 259] (by decide +kernel) (by decide +kernel)
theorem fsX7 : ∀ j, j < 9 → defaultValue (tyX7 j) = vp_V [.null, .null, .null, .int 0, .int 0, .int 0, .int 0, .int 0, .int 0] j := by decide +kernel
set_option maxRecDepth 20000 in
theorem iX8 : ∀ w ∈ u_ws RX8 TX8 7, w ∈ wA := zin [295, 297, 299, 301, 303, 305, 307] (by decide +kernel) (by decide +kernel)
theorem fsX8 : ∀ j, j < 7 → defaultValue (tyX8 j) = vp_V [.null, .null, .null, .null, .null, .null, .null] j := by decide +kernel
set_option maxRecDepth 20000 in
theorem iX9 : ∀ w ∈ u_ws RX9 TX9 3, w ∈ wA := zin [140, 142, 144] (by decide +kernel) (by decide +kernel)
theorem fsX9 : ∀ j, j < 3 → defaultValue (tyX9 j) = vp_V [.null, .int 0, .int 0] j := by decide +kernel
set_option maxRecDepth 20000 in
theorem iX10 : ∀ w ∈ u_ws RX10 TX10 17, w ∈ wA := zin [373, 375, 377, 379, 381, 383, 385, 387, 389, 391, 393, 395, 397, 399, 401, 403, 405] (by decide +kernel) (by decide +kernel)
theorem fsX10 : ∀ j, j < 17 → defaultValue (tyX10 j) = vp_V [.null, .null, .null, .null, .null, .null, .null, .null, .null, .null, .null, .null, .null, .int 0, .int 0, .int 0, .int 0] j := by decide +kernel
set_option maxRecDepth 20000 in
theorem iX11 : ∀ w ∈ u_ws RX11 TX11 41, w ∈ wA := zin [1168, 1170, 1172, 1174, 1176, 1178, 1180, 1182, 1184, 1186, 1188, 1190, 1192, 1194, 1196, 1198, 1200, 1202, 1204, 1206, 1208, 1210, 1212, 1214, 1216, 1218, 1220, 1222, 1224, 1226, 1228, 1230, 1232, 1234, 1236, 1238, 1240, 1242, 1244, 1246, 1248] (by decide +kernel) (by decide +kernel)
theorem fsX11 : ∀ j, j < 41 → defaultValue (tyX11 j) = vp_V [.int 0, .null, .int 0, .int 0, .int 0, .int 0, .null, .null, .null, .null, .null, .null, .null, .int 0, .int 0, .null, .null, .null, .null, .null, .int 0, .int 0, .null, .null, .null, .int 0, .int 0, .null, .null, .int 0, .int 0, .null, .int 0, .long 0, .null, .int 0, .int 0, .null, .null, .null, .int 0] j := by decide +kernel
set_option maxRecDepth 20000 in
theorem qw99 : Cond.initialized RX9 ∈ wA := zw 99 (by decide +kernel) (by decide +kernel)
set_option maxRecDepth 20000 in
theorem qw100 : Cond.initialized RX2 ∈ wA := zw 100 (by decide +kernel) (by decide +kernel)
set_option maxRecDepth 20000 in
theorem qw101 : Cond.initialized RX5 ∈ wA := zw 101 (by decide +kernel) (by decide +kernel)
set_option maxRecDepth 20000 in
theorem qw102 : Cond.initialized RX1 ∈ wA := zw 102 (by decide +kernel) (by decide +kernel)
set_option maxRecDepth 20000 in
theorem qw103 : Cond.initialized RX7 ∈ wA := zw 103 (by decide +kernel) (by decide +kernel)
set_option maxRecDepth 20000 in
theorem qw104 : Cond.initialized RX0 ∈ wA := zw 104 (by decide +kernel) (by decide +kernel)
set_option maxRecDepth 20000 in
theorem qw105 : Cond.initialized RX8 ∈ wA := zw 105 (by decide +kernel) (by decide +kernel)
set_option maxRecDepth 20000 in
theorem qw106 : Cond.initialized RX6 ∈ wA := zw 106 (by decide +kernel) (by decide +kernel)
set_option maxRecDepth 20000 in
theorem qw107 : Cond.initialized RX3 ∈ wA := zw 107 (by decide +kernel) (by decide +kernel)
set_option maxRecDepth 20000 in
theorem qw123 : Cond.methodLink RX10 1 objectInit ∈ wA := zw 123 (by decide +kernel) (by decide +kernel)
set_option maxRecDepth 20000 in
theorem qw124 : Cond.instanceMethod objectInit ∈ wA := zw 124 (by decide +kernel) (by decide +kernel)
set_option maxRecDepth 20000 in
theorem qw125 : Cond.code objectInit ⟨#[0xb1]⟩ 1 none ∈ wA := zw 125 (by decide +kernel) (by decide +kernel)
set_option maxRecDepth 20000 in
theorem qw126 : Cond.classLink RX10 7 RX9 ∈ wA := zw 126 (by decide +kernel) (by decide +kernel)
set_option maxRecDepth 20000 in
theorem qw127 : Cond.instantiable RX9 3 ∈ wA := zw 127 (by decide +kernel) (by decide +kernel)
set_option maxRecDepth 20000 in
theorem qw129 : Cond.instanceMethod yX9_init ∈ wA := zw 129 (by decide +kernel) (by decide +kernel)
set_option maxRecDepth 20000 in
theorem qw130 : Cond.code yX9_init cX9_init 1 none ∈ wA := zw 130 (by decide +kernel) (by decide +kernel)
set_option maxRecDepth 20000 in
theorem qw131 : Cond.methodLink RX9 3 objectInit ∈ wA := zw 131 (by decide +kernel) (by decide +kernel)
set_option maxRecDepth 20000 in
theorem qw132 : Cond.fieldLink RX9 9 "NinePortraits$Tape" "bytes" "[I" ∈ wA := zw 132 (by decide +kernel) (by decide +kernel)
set_option maxRecDepth 20000 in
theorem qw147 : Cond.arrayClass .int ∈ wA := zw 147 (by decide +kernel) (by decide +kernel)
set_option maxRecDepth 20000 in
theorem qw148 : Cond.classLink RX10 16 RX2 ∈ wA := zw 148 (by decide +kernel) (by decide +kernel)
set_option maxRecDepth 20000 in
theorem qw149 : Cond.instantiable RX2 3 ∈ wA := zw 149 (by decide +kernel) (by decide +kernel)
set_option maxRecDepth 20000 in
theorem qw151 : Cond.instanceMethod yX2_init ∈ wA := zw 151 (by decide +kernel) (by decide +kernel)
set_option maxRecDepth 20000 in
theorem qw152 : Cond.code yX2_init cX2_init 1 none ∈ wA := zw 152 (by decide +kernel) (by decide +kernel)
set_option maxRecDepth 20000 in
theorem qw153 : Cond.methodLink RX2 3 objectInit ∈ wA := zw 153 (by decide +kernel) (by decide +kernel)
set_option maxRecDepth 20000 in
theorem qw164 : Cond.classLink RX10 23 RX5 ∈ wA := zw 164 (by decide +kernel) (by decide +kernel)
set_option maxRecDepth 20000 in
theorem qw165 : Cond.instantiable RX5 3 ∈ wA := zw 165 (by decide +kernel) (by decide +kernel)
set_option maxRecDepth 20000 in
theorem qw167 : Cond.instanceMethod yX5_init ∈ wA := zw 167 (by decide +kernel) (by decide +kernel)
set_option maxRecDepth 20000 in
theorem qw168 : Cond.code yX5_init cX5_init 1 none ∈ wA := zw 168 (by decide +kernel) (by decide +kernel)
set_option maxRecDepth 20000 in
theorem qw169 : Cond.methodLink RX5 3 objectInit ∈ wA := zw 169 (by decide +kernel) (by decide +kernel)
set_option maxRecDepth 20000 in
theorem qw170 : Cond.fieldLink RX5 9 "NinePortraits$LawReader" "steps" "[I" ∈ wA := zw 170 (by decide +kernel) (by decide +kernel)
set_option maxRecDepth 20000 in
theorem qw180 : Cond.classLink RX10 30 RX1 ∈ wA := zw 180 (by decide +kernel) (by decide +kernel)
set_option maxRecDepth 20000 in
theorem qw181 : Cond.instantiable RX1 5 ∈ wA := zw 181 (by decide +kernel) (by decide +kernel)
set_option maxRecDepth 20000 in
theorem qw183 : Cond.instanceMethod yX1_init ∈ wA := zw 183 (by decide +kernel) (by decide +kernel)
set_option maxRecDepth 20000 in
theorem qw184 : Cond.code yX1_init cX1_init 1 none ∈ wA := zw 184 (by decide +kernel) (by decide +kernel)
set_option maxRecDepth 20000 in
theorem qw185 : Cond.methodLink RX1 3 objectInit ∈ wA := zw 185 (by decide +kernel) (by decide +kernel)
set_option maxRecDepth 20000 in
theorem qw186 : Cond.fieldLink RX1 9 "NinePortraits$Court" "rules" "[I" ∈ wA := zw 186 (by decide +kernel) (by decide +kernel)
set_option maxRecDepth 20000 in
theorem qw188 : Cond.fieldLink RX1 15 "NinePortraits$Court" "brideParts" "[I" ∈ wA := zw 188 (by decide +kernel) (by decide +kernel)
set_option maxRecDepth 20000 in
theorem qw190 : Cond.fieldLink RX1 18 "NinePortraits$Court" "painterParts" "[I" ∈ wA := zw 190 (by decide +kernel) (by decide +kernel)
set_option maxRecDepth 20000 in
theorem qw212 : Cond.classLink RX10 40 RX4 ∈ wA := zw 212 (by decide +kernel) (by decide +kernel)
set_option maxRecDepth 20000 in
theorem qw214 : Cond.classLink RX10 46 RX7 ∈ wA := zw 214 (by decide +kernel) (by decide +kernel)
set_option maxRecDepth 20000 in
theorem qw215 : Cond.instantiable RX7 9 ∈ wA := zw 215 (by decide +kernel) (by decide +kernel)
set_option maxRecDepth 20000 in
theorem qw217 : Cond.instanceMethod yX7_init ∈ wA := zw 217 (by decide +kernel) (by decide +kernel)
set_option maxRecDepth 20000 in
theorem qw218 : Cond.code yX7_init cX7_init 1 none ∈ wA := zw 218 (by decide +kernel) (by decide +kernel)
set_option maxRecDepth 20000 in
theorem qw219 : Cond.methodLink RX7 3 objectInit ∈ wA := zw 219 (by decide +kernel) (by decide +kernel)
set_option maxRecDepth 20000 in
theorem qw220 : Cond.fieldLink RX7 9 "NinePortraits$State" "pays" "[I" ∈ wA := zw 220 (by decide +kernel) (by decide +kernel)
set_option maxRecDepth 20000 in
theorem qw223 : Cond.fieldLink RX7 15 "NinePortraits$State" "fears" "[I" ∈ wA := zw 223 (by decide +kernel) (by decide +kernel)
set_option maxRecDepth 20000 in
theorem qw226 : Cond.fieldLink RX7 18 "NinePortraits$State" "portraits" "[I" ∈ wA := zw 226 (by decide +kernel) (by decide +kernel)
set_option maxRecDepth 20000 in
theorem qw236 : Cond.fieldLink RX7 21 "NinePortraits$State" "wed" "I" ∈ wA := zw 236 (by decide +kernel) (by decide +kernel)
set_option maxRecDepth 20000 in
theorem qw262 : Cond.classLink RX10 56 RX0 ∈ wA := zw 262 (by decide +kernel) (by decide +kernel)
set_option maxRecDepth 20000 in
theorem qw263 : Cond.instantiable RX0 3 ∈ wA := zw 263 (by decide +kernel) (by decide +kernel)
set_option maxRecDepth 20000 in
theorem qw265 : Cond.instanceMethod yX0_init ∈ wA := zw 265 (by decide +kernel) (by decide +kernel)
set_option maxRecDepth 20000 in
theorem qw266 : Cond.code yX0_init cX0_init 1 none ∈ wA := zw 266 (by decide +kernel) (by decide +kernel)
set_option maxRecDepth 20000 in
theorem qw267 : Cond.methodLink RX0 3 objectInit ∈ wA := zw 267 (by decide +kernel) (by decide +kernel)
set_option maxRecDepth 20000 in
theorem qw268 : Cond.fieldLink RX0 11 "NinePortraits$Acts" "rows" "[I" ∈ wA := zw 268 (by decide +kernel) (by decide +kernel)
set_option maxRecDepth 20000 in
theorem qw279 : Cond.classLink RX10 63 RX8 ∈ wA := zw 279 (by decide +kernel) (by decide +kernel)
set_option maxRecDepth 20000 in
theorem qw280 : Cond.instantiable RX8 7 ∈ wA := zw 280 (by decide +kernel) (by decide +kernel)
set_option maxRecDepth 20000 in
theorem qw281 : Cond.methodLink RX10 65 yX8_init ∈ wA := zw 281 (by decide +kernel) (by decide +kernel)
set_option maxRecDepth 20000 in
theorem qw282 : Cond.instanceMethod yX8_init ∈ wA := zw 282 (by decide +kernel) (by decide +kernel)
set_option maxRecDepth 20000 in
theorem qw283 : Cond.code yX8_init cX8_init 3 none ∈ wA := zw 283 (by decide +kernel) (by decide +kernel)
set_option maxRecDepth 20000 in
theorem qw284 : Cond.methodLink RX8 3 objectInit ∈ wA := zw 284 (by decide +kernel) (by decide +kernel)
set_option maxRecDepth 20000 in
theorem qw285 : Cond.fieldLink RX8 9 "NinePortraits$Studio" "oneLooks" "[I" ∈ wA := zw 285 (by decide +kernel) (by decide +kernel)
set_option maxRecDepth 20000 in
theorem qw287 : Cond.fieldLink RX8 15 "NinePortraits$Studio" "otherLooks" "[I" ∈ wA := zw 287 (by decide +kernel) (by decide +kernel)
set_option maxRecDepth 20000 in
theorem qw289 : Cond.fieldLink RX8 24 "NinePortraits$Studio" "court" "LNinePortraits$Court;" ∈ wA := zw 289 (by decide +kernel) (by decide +kernel)
set_option maxRecDepth 20000 in
theorem qw290 : Cond.fieldLink RX8 28 "NinePortraits$Studio" "state" "LNinePortraits$State;" ∈ wA := zw 290 (by decide +kernel) (by decide +kernel)
set_option maxRecDepth 20000 in
theorem qw291 : Cond.fieldLink RX8 18 "NinePortraits$Studio" "letters" "[I" ∈ wA := zw 291 (by decide +kernel) (by decide +kernel)
set_option maxRecDepth 20000 in
theorem qw292 : Cond.fieldLink RX8 21 "NinePortraits$Studio" "stack" "[I" ∈ wA := zw 292 (by decide +kernel) (by decide +kernel)
set_option maxRecDepth 20000 in
theorem qw310 : Cond.classLink RX10 72 RX6 ∈ wA := zw 310 (by decide +kernel) (by decide +kernel)
set_option maxRecDepth 20000 in
theorem qw311 : Cond.instantiable RX6 9 ∈ wA := zw 311 (by decide +kernel) (by decide +kernel)
set_option maxRecDepth 20000 in
theorem qw312 : Cond.methodLink RX10 74 yX6_init ∈ wA := zw 312 (by decide +kernel) (by decide +kernel)
set_option maxRecDepth 20000 in
theorem qw313 : Cond.instanceMethod yX6_init ∈ wA := zw 313 (by decide +kernel) (by decide +kernel)
set_option maxRecDepth 20000 in
theorem qw314 : Cond.code yX6_init cX6_init 4 none ∈ wA := zw 314 (by decide +kernel) (by decide +kernel)
set_option maxRecDepth 20000 in
theorem qw315 : Cond.methodLink RX6 3 objectInit ∈ wA := zw 315 (by decide +kernel) (by decide +kernel)
set_option maxRecDepth 20000 in
theorem qw316 : Cond.fieldLink RX6 25 "NinePortraits$Mind" "court" "LNinePortraits$Court;" ∈ wA := zw 316 (by decide +kernel) (by decide +kernel)
set_option maxRecDepth 20000 in
theorem qw317 : Cond.fieldLink RX6 29 "NinePortraits$Mind" "state" "LNinePortraits$State;" ∈ wA := zw 317 (by decide +kernel) (by decide +kernel)
set_option maxRecDepth 20000 in
theorem qw318 : Cond.fieldLink RX6 33 "NinePortraits$Mind" "studio" "LNinePortraits$Studio;" ∈ wA := zw 318 (by decide +kernel) (by decide +kernel)
set_option maxRecDepth 20000 in
theorem qw319 : Cond.fieldLink RX6 9 "NinePortraits$Mind" "weights" "[J" ∈ wA := zw 319 (by decide +kernel) (by decide +kernel)
set_option maxRecDepth 20000 in
theorem qw323 : Cond.fieldLink RX6 15 "NinePortraits$Mind" "views" "[I" ∈ wA := zw 323 (by decide +kernel) (by decide +kernel)
set_option maxRecDepth 20000 in
theorem qw324 : Cond.fieldLink RX6 19 "NinePortraits$Mind" "alike" "[I" ∈ wA := zw 324 (by decide +kernel) (by decide +kernel)
set_option maxRecDepth 20000 in
theorem qw325 : Cond.fieldLink RX6 22 "NinePortraits$Mind" "tellers" "[I" ∈ wA := zw 325 (by decide +kernel) (by decide +kernel)
set_option maxRecDepth 20000 in
theorem qw345 : Cond.arrayClass .long ∈ wA := zw 345 (by decide +kernel) (by decide +kernel)
set_option maxRecDepth 20000 in
theorem qw346 : Cond.classLink RX10 81 RX3 ∈ wA := zw 346 (by decide +kernel) (by decide +kernel)
set_option maxRecDepth 20000 in
theorem qw347 : Cond.instantiable RX3 1 ∈ wA := zw 347 (by decide +kernel) (by decide +kernel)
set_option maxRecDepth 20000 in
theorem qw349 : Cond.instanceMethod yX3_init ∈ wA := zw 349 (by decide +kernel) (by decide +kernel)
set_option maxRecDepth 20000 in
theorem qw350 : Cond.code yX3_init cX3_init 1 none ∈ wA := zw 350 (by decide +kernel) (by decide +kernel)
set_option maxRecDepth 20000 in
theorem qw351 : Cond.methodLink RX3 1 objectInit ∈ wA := zw 351 (by decide +kernel) (by decide +kernel)
set_option maxRecDepth 20000 in
theorem qw356 : Cond.fieldLink RX10 10 "NinePortraits" "tape" "LNinePortraits$Tape;" ∈ wA := zw 356 (by decide +kernel) (by decide +kernel)
set_option maxRecDepth 20000 in
theorem qw357 : Cond.fieldLink RX10 19 "NinePortraits" "courtReader" "LNinePortraits$CourtReader;" ∈ wA := zw 357 (by decide +kernel) (by decide +kernel)
set_option maxRecDepth 20000 in
theorem qw358 : Cond.fieldLink RX10 26 "NinePortraits" "lawReader" "LNinePortraits$LawReader;" ∈ wA := zw 358 (by decide +kernel) (by decide +kernel)
set_option maxRecDepth 20000 in
theorem qw359 : Cond.fieldLink RX10 33 "NinePortraits" "draft" "LNinePortraits$Court;" ∈ wA := zw 359 (by decide +kernel) (by decide +kernel)
set_option maxRecDepth 20000 in
theorem qw360 : Cond.fieldLink RX10 37 "NinePortraits" "court" "LNinePortraits$Court;" ∈ wA := zw 360 (by decide +kernel) (by decide +kernel)
set_option maxRecDepth 20000 in
theorem qw361 : Cond.fieldLink RX10 42 "NinePortraits" "laws" "[LNinePortraits$Law;" ∈ wA := zw 361 (by decide +kernel) (by decide +kernel)
set_option maxRecDepth 20000 in
theorem qw362 : Cond.fieldLink RX10 49 "NinePortraits" "state" "LNinePortraits$State;" ∈ wA := zw 362 (by decide +kernel) (by decide +kernel)
set_option maxRecDepth 20000 in
theorem qw363 : Cond.fieldLink RX10 53 "NinePortraits" "kept" "LNinePortraits$State;" ∈ wA := zw 363 (by decide +kernel) (by decide +kernel)
set_option maxRecDepth 20000 in
theorem qw364 : Cond.fieldLink RX10 59 "NinePortraits" "acts" "LNinePortraits$Acts;" ∈ wA := zw 364 (by decide +kernel) (by decide +kernel)
set_option maxRecDepth 20000 in
theorem qw365 : Cond.fieldLink RX10 68 "NinePortraits" "studio" "LNinePortraits$Studio;" ∈ wA := zw 365 (by decide +kernel) (by decide +kernel)
set_option maxRecDepth 20000 in
theorem qw366 : Cond.fieldLink RX10 77 "NinePortraits" "mind" "LNinePortraits$Mind;" ∈ wA := zw 366 (by decide +kernel) (by decide +kernel)
set_option maxRecDepth 20000 in
theorem qw367 : Cond.fieldLink RX10 84 "NinePortraits" "draws" "LNinePortraits$Draws;" ∈ wA := zw 367 (by decide +kernel) (by decide +kernel)
set_option maxRecDepth 20000 in
theorem qw368 : Cond.fieldLink RX10 88 "NinePortraits" "refused" "[I" ∈ wA := zw 368 (by decide +kernel) (by decide +kernel)
set_option maxRecDepth 20000 in
theorem qw370 : Cond.fieldLink RX10 92 "NinePortraits" "lawThatHolds" "I" ∈ wA := zw 370 (by decide +kernel) (by decide +kernel)
set_option maxRecDepth 20000 in
theorem qw1126 : Cond.methodLink RX11 3 objectInit ∈ wA := zw 1126 (by decide +kernel) (by decide +kernel)
set_option maxRecDepth 20000 in
theorem qw1128 : Cond.fieldLink RX11 9 "NinePortraitsModel" "tape" "[I" ∈ wA := zw 1128 (by decide +kernel) (by decide +kernel)
set_option maxRecDepth 20000 in
theorem qw1133 : Cond.fieldLink RX11 13 "NinePortraitsModel" "code" "[I" ∈ wA := zw 1133 (by decide +kernel) (by decide +kernel)
set_option maxRecDepth 20000 in
theorem qw1134 : Cond.fieldLink RX11 16 "NinePortraitsModel" "value" "[I" ∈ wA := zw 1134 (by decide +kernel) (by decide +kernel)
set_option maxRecDepth 20000 in
theorem qw1135 : Cond.fieldLink RX11 19 "NinePortraitsModel" "codes" "[I" ∈ wA := zw 1135 (by decide +kernel) (by decide +kernel)
set_option maxRecDepth 20000 in
theorem qw1136 : Cond.fieldLink RX11 22 "NinePortraitsModel" "clauses" "[I" ∈ wA := zw 1136 (by decide +kernel) (by decide +kernel)
set_option maxRecDepth 20000 in
theorem qw1137 : Cond.fieldLink RX11 25 "NinePortraitsModel" "testFrom" "[I" ∈ wA := zw 1137 (by decide +kernel) (by decide +kernel)
set_option maxRecDepth 20000 in
theorem qw1138 : Cond.fieldLink RX11 28 "NinePortraitsModel" "sumFrom" "[I" ∈ wA := zw 1138 (by decide +kernel) (by decide +kernel)
set_option maxRecDepth 20000 in
theorem qw1139 : Cond.fieldLink RX11 31 "NinePortraitsModel" "sumTo" "[I" ∈ wA := zw 1139 (by decide +kernel) (by decide +kernel)
set_option maxRecDepth 20000 in
theorem qw1142 : Cond.fieldLink RX11 34 "NinePortraitsModel" "letters" "[I" ∈ wA := zw 1142 (by decide +kernel) (by decide +kernel)
set_option maxRecDepth 20000 in
theorem qw1143 : Cond.fieldLink RX11 37 "NinePortraitsModel" "stack" "[I" ∈ wA := zw 1143 (by decide +kernel) (by decide +kernel)
set_option maxRecDepth 20000 in
theorem qw1144 : Cond.fieldLink RX11 40 "NinePortraitsModel" "readRule" "[I" ∈ wA := zw 1144 (by decide +kernel) (by decide +kernel)
set_option maxRecDepth 20000 in
theorem qw1145 : Cond.fieldLink RX11 43 "NinePortraitsModel" "readBride" "[I" ∈ wA := zw 1145 (by decide +kernel) (by decide +kernel)
set_option maxRecDepth 20000 in
theorem qw1146 : Cond.fieldLink RX11 46 "NinePortraitsModel" "readPainter" "[I" ∈ wA := zw 1146 (by decide +kernel) (by decide +kernel)
set_option maxRecDepth 20000 in
theorem qw1149 : Cond.fieldLink RX11 49 "NinePortraitsModel" "rule" "[I" ∈ wA := zw 1149 (by decide +kernel) (by decide +kernel)
set_option maxRecDepth 20000 in
theorem qw1150 : Cond.fieldLink RX11 52 "NinePortraitsModel" "bride" "[I" ∈ wA := zw 1150 (by decide +kernel) (by decide +kernel)
set_option maxRecDepth 20000 in
theorem qw1151 : Cond.fieldLink RX11 55 "NinePortraitsModel" "painter" "[I" ∈ wA := zw 1151 (by decide +kernel) (by decide +kernel)
set_option maxRecDepth 20000 in
theorem qw1154 : Cond.fieldLink RX11 58 "NinePortraitsModel" "now" "[I" ∈ wA := zw 1154 (by decide +kernel) (by decide +kernel)
set_option maxRecDepth 20000 in
theorem qw1155 : Cond.fieldLink RX11 61 "NinePortraitsModel" "refused" "[I" ∈ wA := zw 1155 (by decide +kernel) (by decide +kernel)
set_option maxRecDepth 20000 in
theorem qw1156 : Cond.fieldLink RX11 64 "NinePortraitsModel" "holding" "I" ∈ wA := zw 1156 (by decide +kernel) (by decide +kernel)
set_option maxRecDepth 20000 in
theorem qw1158 : Cond.fieldLink RX11 68 "NinePortraitsModel" "kept" "[I" ∈ wA := zw 1158 (by decide +kernel) (by decide +kernel)
set_option maxRecDepth 20000 in
theorem qw1161 : Cond.fieldLink RX11 71 "NinePortraitsModel" "beliefs" "[I" ∈ wA := zw 1161 (by decide +kernel) (by decide +kernel)
set_option maxRecDepth 20000 in
theorem qw1164 : Cond.fieldLink RX11 74 "NinePortraitsModel" "askedBy" "[I" ∈ wA := zw 1164 (by decide +kernel) (by decide +kernel)
set_option maxRecDepth 20000 in
theorem qw1165 : Cond.fieldLink RX11 77 "NinePortraitsModel" "holdsOne" "[I" ∈ wA := zw 1165 (by decide +kernel) (by decide +kernel)
set_option maxRecDepth 20000 in
theorem qw1166 : Cond.fieldLink RX11 80 "NinePortraitsModel" "image" "[I" ∈ wA := zw 1166 (by decide +kernel) (by decide +kernel)
theorem hd_X0_init : yX0_init.cls = RX0 ∧ yX0_init.cls ≠ "java/lang/invoke/MethodHandle" ∧ yX0_init.cls ≠ "java/lang/invoke/VarHandle" ∧ (parseMethodDescriptor yX0_init.desc).map (fun d => d.parameters.length) = some 0 := by decide +kernel
theorem hd_X1_init : yX1_init.cls = RX1 ∧ yX1_init.cls ≠ "java/lang/invoke/MethodHandle" ∧ yX1_init.cls ≠ "java/lang/invoke/VarHandle" ∧ (parseMethodDescriptor yX1_init.desc).map (fun d => d.parameters.length) = some 0 := by decide +kernel
theorem hd_X2_init : yX2_init.cls = RX2 ∧ yX2_init.cls ≠ "java/lang/invoke/MethodHandle" ∧ yX2_init.cls ≠ "java/lang/invoke/VarHandle" ∧ (parseMethodDescriptor yX2_init.desc).map (fun d => d.parameters.length) = some 0 := by decide +kernel
theorem hd_X3_init : yX3_init.cls = RX3 ∧ yX3_init.cls ≠ "java/lang/invoke/MethodHandle" ∧ yX3_init.cls ≠ "java/lang/invoke/VarHandle" ∧ (parseMethodDescriptor yX3_init.desc).map (fun d => d.parameters.length) = some 0 := by decide +kernel
theorem hd_X5_init : yX5_init.cls = RX5 ∧ yX5_init.cls ≠ "java/lang/invoke/MethodHandle" ∧ yX5_init.cls ≠ "java/lang/invoke/VarHandle" ∧ (parseMethodDescriptor yX5_init.desc).map (fun d => d.parameters.length) = some 0 := by decide +kernel
theorem hd_X6_init : yX6_init.cls = RX6 ∧ yX6_init.cls ≠ "java/lang/invoke/MethodHandle" ∧ yX6_init.cls ≠ "java/lang/invoke/VarHandle" ∧ (parseMethodDescriptor yX6_init.desc).map (fun d => d.parameters.length) = some 3 := by decide +kernel
theorem hd_X7_init : yX7_init.cls = RX7 ∧ yX7_init.cls ≠ "java/lang/invoke/MethodHandle" ∧ yX7_init.cls ≠ "java/lang/invoke/VarHandle" ∧ (parseMethodDescriptor yX7_init.desc).map (fun d => d.parameters.length) = some 0 := by decide +kernel
theorem hd_X8_init : yX8_init.cls = RX8 ∧ yX8_init.cls ≠ "java/lang/invoke/MethodHandle" ∧ yX8_init.cls ≠ "java/lang/invoke/VarHandle" ∧ (parseMethodDescriptor yX8_init.desc).map (fun d => d.parameters.length) = some 2 := by decide +kernel
theorem hd_X9_init : yX9_init.cls = RX9 ∧ yX9_init.cls ≠ "java/lang/invoke/MethodHandle" ∧ yX9_init.cls ≠ "java/lang/invoke/VarHandle" ∧ (parseMethodDescriptor yX9_init.desc).map (fun d => d.parameters.length) = some 0 := by decide +kernel
/-- the words that a constructor needs beside the tables' good ones: its nest mates' constructors, the array of laws -/
def zE (U : State) : Prop := va_Nw (.methodLinkNest RX10 9 yX9_init "NinePortraits") U ∧ va_Nw (.methodLinkNest RX10 18 yX2_init "NinePortraits") U ∧ va_Nw (.methodLinkNest RX10 25 yX5_init "NinePortraits") U ∧ va_Nw (.methodLinkNest RX10 32 yX1_init "NinePortraits") U ∧ va_Nw (.methodLinkNest RX10 48 yX7_init "NinePortraits") U ∧ va_Nw (.methodLinkNest RX10 58 yX0_init "NinePortraits") U ∧ va_Nw (.methodLinkNest RX10 83 yX3_init "NinePortraits") U ∧ va_AO "NinePortraits$Law" U
theorem zE_same {u U : State} (h : u.vm = U.vm) (z : zE u) : zE U := by
  obtain ⟨h1, h2, h3, h4, h5, h6, h7, h8⟩ := z
  exact ⟨h1.same rfl h, h2.same rfl h, h3.same rfl h, h4.same rfl h, h5.same rfl h, h6.same rfl h, h7.same rfl h, va_AO.moved (by rw [h]; exact Vm.Alike.refl U.vm) h8⟩
theorem zE_warm {s U : State} (hW : s.WarmedH U.vm) (z : zE s) : zE U := by
  obtain ⟨h1, h2, h3, h4, h5, h6, h7, h8⟩ := z
  exact ⟨h1.warmM hW, h2.warmM hW, h3.warmM hW, h4.warmM hW, h5.warmM hW, h6.warmM hW, h7.warmM hW, va_AO.moved hW.alike h8⟩
def zPE (D : va_G) (ts : List (ClassId × FieldType)) (av : List Value) (sz : Nat) (ws : va_W) : Array Value → State → Prop := fun v U => zP D ts av sz ws v U ∧ zE U
theorem zPES {D : va_G} {ts : List (ClassId × FieldType)} {As : List Value} {ws : va_W} {s : State} {H : Heap} {A : Nat → Prop} (hP : va_P D vwCl ws H) (hK : va_K D vwCl ts s) (hD : va_D A ws) (hE : zE s) : PreS s H (zPE D ts As H.size ws) As :=
  ⟨fun a U g mk q => ⟨zPb a U g mk q.1, zE_same (u := U) rfl q.2⟩, fun U hU hW => ⟨(zPS hP hK hD).2 U hU hW, zE_warm hW hE⟩⟩
