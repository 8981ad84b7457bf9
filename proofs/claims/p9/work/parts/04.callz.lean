/-- a call's part of the world, once for its three uses -/
theorem zc2 {A0 : Nat → Prop} {D : va_G} {cl : List vw_C} {ws wc : va_W} {H : Heap} (hP : va_P D cl ws H) (hD : va_D A0 ws) (is : List Nat) (hn : va_nd is = true) (hs : is.map (fun i => ws[i]?) = wc.map some) : va_P D cl wc H ∧ va_D A0 wc := by
  refine ⟨fun k q hk => ?_, hD.sub is hn hs⟩
  have h1 : (is.map (fun i => ws[i]?))[k]? = some (some q) := by rw [hs, List.getElem?_map, hk]; rfl
  rw [List.getElem?_map] at h1
  cases hi : is[k]? with
  | none => rw [hi] at h1; cases h1
  | some i => rw [hi] at h1; exact hP i q (Option.some.inj h1)
theorem zc3 {A0 : Nat → Prop} {D : va_G} {cl : List vw_C} {ws wc : va_W} {H0 H : Heap} {locs : List Loc} (hP : va_P D cl ws H) (hD : va_D A0 ws) (hS : va_S A0 H0 H locs) (hA : ∀ q, H0.size ≤ q → A0 q) (is : List Nat) (hn : va_nd is = true) (hs : is.map (fun i => ws[i]?) = wc.map some) : va_P D cl wc H ∧ va_D A0 wc ∧ (∀ q, va_A wc H.size q → A0 q) :=
  ⟨(zc2 hP hD is hn hs).1, (zc2 hP hD is hn hs).2, va_free hD hS hA is hs⟩
/-- what stands at a place of the world behind a call: (true, j) the callee's j-th, (false, i) the caller's i-th -/
def zjf (ws w1 : va_W) (x : Bool × Nat) : Option (Nat × va_E) := match x with
  | (true, j) => w1[j]?
  | (false, i) => ws[i]?
def zjc (x : Bool × Nat) : Nat := match x with
  | (true, j) => 2 * j + 1
  | (false, i) => 2 * i
theorem zjc_inj {x y : Bool × Nat} (h : zjc x = zjc y) : x = y := by
  obtain ⟨a, i⟩ := x
  obtain ⟨b, j⟩ := y
  cases a <;> cases b
  · have h : 2 * i = 2 * j := h
    rw [show i = j by omega]
  · have h : 2 * i = 2 * j + 1 := h
    omega
  · have h : 2 * i + 1 = 2 * j := h
    omega
  · have h : 2 * i + 1 = 2 * j + 1 := h
    rw [show i = j by omega]
/-- a call is back: the world in the caller's own order, told once -/
theorem zj2 {A0 : Nat → Prop} {D : va_G} {cl : List vw_C} {ws wc w1 wX : va_W} {H H1 : Heap} {t : State} (hP : va_P D cl ws H) (hD : va_D A0 ws) (hk : ∀ q : Nat, q < H.size → ¬ va_A wc H.size q → H1[q]? = H[q]?) (hF : ∀ q, va_A wc H.size q → A0 q) (ht : t.heap = H1) (hB : va_P D cl w1 t.heap ∧ va_D (va_A wc H.size) w1) (isC : List Nat) (isX : List (Bool × Nat)) (hC : isC.map (fun i => ws[i]?) = wc.map some) (hn : va_nd (isX.map zjc) = true) (hdis : ∀ x ∈ isX, x.1 = false → x.2 ∉ isC) (hX : isX.map (zjf ws w1) = wX.map some) : va_P D cl wX H1 ∧ va_D A0 wX := by
  subst ht
  obtain ⟨hP1, hD1⟩ := hB
  have atC : ∀ (k : Nat) (q : Nat × va_E), wc[k]? = some q → ∃ i, isC[k]? = some i ∧ ws[i]? = some q := by
    intro k q hq
    have h1 : (isC.map (fun i => ws[i]?))[k]? = some (some q) := by rw [hC, List.getElem?_map, hq]; rfl
    rw [List.getElem?_map] at h1
    cases hi : isC[k]? with
    | none => rw [hi] at h1; cases h1
    | some i => rw [hi] at h1; exact ⟨i, rfl, Option.some.inj h1⟩
  have atX : ∀ (k : Nat) (q : Nat × va_E), wX[k]? = some q → ∃ x, isX[k]? = some x ∧ zjf ws w1 x = some q := by
    intro k q hq
    have h1 : (isX.map (zjf ws w1))[k]? = some (some q) := by rw [hX, List.getElem?_map, hq]; rfl
    rw [List.getElem?_map] at h1
    cases hi : isX[k]? with
    | none => rw [hi] at h1; cases h1
    | some i => rw [hi] at h1; exact ⟨i, rfl, Option.some.inj h1⟩
  have key : ∀ (k : Nat) (q : Nat × va_E), wX[k]? = some q → ∃ x : Bool × Nat, isX[k]? = some x ∧ ((x.1 = false ∧ ws[x.2]? = some q ∧ q.1 < H.size ∧ ¬ va_A wc H.size q.1) ∨ (x.1 = true ∧ w1[x.2]? = some q)) := by
    intro k q hq
    obtain ⟨⟨b, i⟩, h1, h2⟩ := atX k q hq
    refine ⟨(b, i), h1, ?_⟩
    cases b with
    | true => exact Or.inr ⟨rfl, h2⟩
    | false =>
      have h2 : ws[i]? = some q := h2
      have hl := (hP i q h2).lt
      refine Or.inl ⟨rfl, h2, hl, fun h => ?_⟩
      rcases h with ⟨k2, e, h⟩ | h
      · obtain ⟨j, h3, h4⟩ := atC k2 (q.1, e) h
        have hij := hD.1 i j q (q.1, e) h2 h4 rfl
        subst hij
        exact hdis (false, i) (List.mem_of_getElem? h1) rfl (List.mem_of_getElem? h3)
      · omega
  have inj : ∀ (i j : Nat) (x : Bool × Nat), isX[i]? = some x → isX[j]? = some x → i = j := fun i j x h1 h2 =>
    va_nd_inj _ hn i j (zjc x) (by rw [List.getElem?_map, h1]; rfl) (by rw [List.getElem?_map, h2]; rfl)
  refine ⟨fun k q hq => ?_, fun i j x y hi hj hxy => ?_, fun k q hq => ?_⟩
  · obtain ⟨x, h1, ⟨-, h2, h3, h4⟩ | ⟨-, h2⟩⟩ := key k q hq
    · exact (hP x.2 q h2).kept (hk q.1 h3 h4)
    · exact hP1 x.2 q h2
  · obtain ⟨a, h1, h2⟩ := key i x hi
    obtain ⟨b, h3, h4⟩ := key j y hj
    have hab : a = b := by
      rcases h2 with ⟨u1, u2, u3, u4⟩ | ⟨u1, u2⟩ <;> rcases h4 with ⟨w1, w2, w3, w4⟩ | ⟨w1, w2⟩
      · exact Prod.ext (u1.trans w1.symm) (hD.1 _ _ x y u2 w2 hxy)
      · exact absurd (hD1.2 _ y w2) (by rw [← hxy]; exact u4)
      · exact absurd (hD1.2 _ x u2) (by rw [hxy]; exact w4)
      · exact Prod.ext (u1.trans w1.symm) (hD1.1 _ _ x y u2 w2 hxy)
    subst hab
    exact inj i j a h1 h3
  · obtain ⟨x, h1, ⟨-, h2, h3, h4⟩ | ⟨-, h2⟩⟩ := key k q hq
    · exact hD.2 x.2 q h2
    · exact hF q.1 (hD1.2 _ q h2)
/-- a world told anew, once for both -/
theorem zst {A0 : Nat → Prop} {D : va_G} {cl : List vw_C} {w wX : va_W} {H : Heap} (hP : va_P D cl w H) (hD : va_D A0 w) (h : w = wX) : va_P D cl wX H ∧ va_D A0 wX := by
  subst h
  exact ⟨hP, hD⟩
