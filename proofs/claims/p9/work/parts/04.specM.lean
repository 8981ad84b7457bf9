def zFl (fear pays : Int32) : Int32 := if 0 < pays - fear / 3 then pays - fear / 3 else 0
def zCp (v : Int32) : Int32 := if 0 < (if v < 9 then v else 9) then (if v < 9 then v else 9) else 0
def zL6 (f w y s a m : Int32) : Nat → Int32 := fun i => if i = 0 then f else if i = 1 then w else if i = 2 then y else if i = 3 then s else if i = 4 then a else m
def zLkv (lw : Option ((Int → Int) × Int)) (f w y s a m : Int32) : Int32 :=
  match lw with
  | none => zCp (f + zFl a y - w / 2)
  | some t => zCp (rWo (zL6 f w y s a m) t.1 t.2 (eCs t.1 t.2))
def zB5 (f w y s a m : Int32) : Prop := zB6 f ∧ zB6 w ∧ zB6 y ∧ zB6 s ∧ zB6 a ∧ zB6 m
theorem zL6_b {f w y s a m : Int32} (h : zB5 f w y s a m) : ∀ i : Nat, i < 6 → zB6 (zL6 f w y s a m i) := by
  obtain ⟨h1, h2, h3, h4, h5, h6⟩ := h
  intro i hi
  match i, hi with
  | 0, _ => exact h1
  | 1, _ => exact h2
  | 2, _ => exact h3
  | 3, _ => exact h4
  | 4, _ => exact h5
  | 5, _ => exact h6
  | i + 6, h => exact absurd h (by omega)
theorem zlet6 {L L0 L1 L2 L3 L4 L5 : Nat → Int32} {f w y s a m : Int32} (e0 : L0 = upd L (0 : Int32).toNatClampNeg f) (e1 : L1 = upd L0 (1 : Int32).toNatClampNeg w) (e2 : L2 = upd L1 (2 : Int32).toNatClampNeg y) (e3 : L3 = upd L2 (3 : Int32).toNatClampNeg s) (e4 : L4 = upd L3 (4 : Int32).toNatClampNeg a) (e5 : L5 = upd L4 (5 : Int32).toNatClampNeg m) : ∀ i : Nat, i < 6 → L5 i = zL6 f w y s a m i := by
  rw [show (0 : Int32).toNatClampNeg = 0 by decide] at e0
  rw [show (1 : Int32).toNatClampNeg = 1 by decide] at e1
  rw [show (2 : Int32).toNatClampNeg = 2 by decide] at e2
  rw [show (3 : Int32).toNatClampNeg = 3 by decide] at e3
  rw [show (4 : Int32).toNatClampNeg = 4 by decide] at e4
  rw [show (5 : Int32).toNatClampNeg = 5 by decide] at e5
  intro i hi
  match i, hi with
  | 0, _ => rw [e5, pk_un (by decide), e4, pk_un (by decide), e3, pk_un (by decide), e2, pk_un (by decide), e1, pk_un (by decide), e0, pk_us]; rfl
  | 1, _ => rw [e5, pk_un (by decide), e4, pk_un (by decide), e3, pk_un (by decide), e2, pk_un (by decide), e1, pk_us]; rfl
  | 2, _ => rw [e5, pk_un (by decide), e4, pk_un (by decide), e3, pk_un (by decide), e2, pk_us]; rfl
  | 3, _ => rw [e5, pk_un (by decide), e4, pk_un (by decide), e3, pk_us]; rfl
  | 4, _ => rw [e5, pk_un (by decide), e4, pk_us]; rfl
  | 5, _ => rw [e5, pk_us]; rfl
  | i + 6, h => exact absurd h (by omega)
theorem zLkv_n {r a b f w y s fe m : Int32} (eb : b = if a < 9 then a else 9) (er : r = if 0 < b then b else 0) (ea : a = f + zFl fe y - w / 2) : r = zLkv none f w y s fe m := by
  show r = zCp (f + zFl fe y - w / 2)
  unfold zCp
  rw [er, eb, ea]
def zLwC (fS : Nat → Int32) (lk : Nat) (t : (Int → Int) × Int) : Prop := zTok fS lk (eLaw t.1 t.2) ∧ (sCl t.1 t.2 0).1 = 1
theorem zLkv_c {fS L : Nat → Int32} {lk : Nat} {t : (Int → Int) × Int} {r a b f w y s fe m : Int32} (h : zLwC fS lk t) (hb : zB5 f w y s fe m) (hL : ∀ i : Nat, i < 6 → L i = zL6 f w y s fe m i) (F : ∀ tk : List (Int × Int), zTok fS lk tk → a = cRun L tk false []) (eb : b = if a < 9 then a else 9) (er : r = if 0 < b then b else 0) : r = zLkv (some t) f w y s fe m := by
  show r = zCp (rWo (zL6 f w y s fe m) t.1 t.2 (eCs t.1 t.2))
  have e : a = rWo (zL6 f w y s fe m) t.1 t.2 (eCs t.1 t.2) := by
    rw [F _ h.1, cRun_law (fun i hi => by rw [hL i hi]; exact zL6_b hb i hi) h.2]
    exact rWo_c hL _ (eCs_ok h.2)
  unfold zCp
  rw [er, eb, e]
theorem zLkv_r {fC fV fK fT fS fU L : Nat → Int32} {tx : Nat} {t : (Int → Int) × Int} {r a b f w y s fe m : Int32} (h : zLR t.1 t.2 fC fV fK fT fS fU tx) (hb : zB5 f w y s fe m) (hL : ∀ i : Nat, i < 6 → L i = zL6 f w y s fe m i) (F : ∀ (g : Int → Int) (n : Int), zLR g n fC fV fK fT fS fU tx → (∀ i : Nat, i < 6 → zB6 (L i)) → a = rWo L g n (eCs g n)) (eb : b = if a < 9 then a else 9) (er : r = if 0 < b then b else 0) : r = zLkv (some t) f w y s fe m := by
  show r = zCp (rWo (zL6 f w y s fe m) t.1 t.2 (eCs t.1 t.2))
  have e : a = rWo (zL6 f w y s fe m) t.1 t.2 (eCs t.1 t.2) := by
    rw [F _ _ h (fun i hi => by rw [hL i hi]; exact zL6_b hb i hi)]
    exact rWo_c hL _ (eCs_ok h.1)
  unfold zCp
  rw [er, eb, e]
theorem zCp_b (v : Int32) : 0 ≤ (zCp v).toInt ∧ (zCp v).toInt ≤ 9 := by
  unfold zCp
  have n9 : (9 : Int32).toInt = 9 := by decide
  have n0 : (0 : Int32).toInt = 0 := by decide
  by_cases q : v < 9
  · rw [if_pos q]
    have q2 := Int32.lt_iff_toInt_lt.mp q
    by_cases p : 0 < v
    · rw [if_pos p]
      have p2 := Int32.lt_iff_toInt_lt.mp p
      omega
    · rw [if_neg p]
      decide
  · rw [if_neg q]
    decide
theorem zLkv_b (lw : Option ((Int → Int) × Int)) (f w y s a m : Int32) : 0 ≤ (zLkv lw f w y s a m).toInt ∧ (zLkv lw f w y s a m).toInt ≤ 9 := by
  unfold zLkv
  cases lw
  · exact zCp_b _
  · exact zCp_b _
def zLat (P : Nat → Int32) (p : Int32) : Nat → Int32
  | 0 => -1
  | k + 1 => if (P (4 * k + 1)).toInt = p.toInt then P (4 * k + 2) else zLat P p k
def zSh (kind lat look : Int32) : Int32 := if kind.toInt = 1 then (look + 7) / 2 else if kind.toInt = 2 then (if 0 < look - 2 then look - 2 else 0) else if kind.toInt = 3 ∧ ¬ lat.toInt = -1 then lat else look
def zLaI (P : Nat → Int32) (p n r : Int32) : Prop := (r.toInt = -1 ∧ zLat P p n.toInt.toNat = -1) ∨ (0 ≤ r.toInt ∧ r.toInt < n.toInt ∧ zLat P p n.toInt.toNat = P (4 * r.toInt.toNat + 2))
theorem zLat_s {P : Nat → Int32} {p i v : Int32} {k : Nat} (h : zLat P p k = zLat P p (i.toInt + 1).toNat) (h0 : 0 ≤ i.toInt) (F : v = P (4 * i.toInt.toNat + 1)) (hn : ¬ v.toInt = p.toInt) : ∀ i' : Int32, i'.toInt = i.toInt - 1 → zLat P p k = zLat P p (i'.toInt + 1).toNat := by
  intro i' hi
  rw [h, show (i.toInt + 1).toNat = i.toInt.toNat + 1 by omega, show (i'.toInt + 1).toNat = i.toInt.toNat by omega]
  show (if (P (4 * i.toInt.toNat + 1)).toInt = p.toInt then _ else zLat P p i.toInt.toNat) = _
  rw [← F, if_neg hn]
theorem zLat_y {P : Nat → Int32} {p i v : Int32} {k : Nat} (h : zLat P p k = zLat P p (i.toInt + 1).toNat) (h0 : 0 ≤ i.toInt) (F : v = P (4 * i.toInt.toNat + 1)) (hn : v.toInt = p.toInt) : zLat P p k = P (4 * i.toInt.toNat + 2) := by
  rw [h, show (i.toInt + 1).toNat = i.toInt.toNat + 1 by omega]
  show (if (P (4 * i.toInt.toNat + 1)).toInt = p.toInt then P (4 * i.toInt.toNat + 2) else _) = _
  rw [← F, if_pos hn]
theorem zLat_e {P : Nat → Int32} {p i : Int32} {k : Nat} (h : zLat P p k = zLat P p (i.toInt + 1).toNat) (h0 : i.toInt + 1 ≤ 0) : zLat P p k = -1 := by
  rw [h, show (i.toInt + 1).toNat = 0 by omega]
  rfl
theorem zSh_1 {k t v x r : Int32} (hk : k.toInt = 1) (ex : x = v + 7) (er : r = x / 2) : r = zSh k t v := by
  unfold zSh
  rw [if_pos hk, er, ex]
theorem zSh_2 {k t v x r : Int32} (hk : k.toInt = 2) (ex : x = v - 2) (er : r = if 0 < x then x else 0) : r = zSh k t v := by
  unfold zSh
  rw [if_neg (by omega), if_pos hk, er, ex]
theorem zSh_o {k t v : Int32} (h1 : ¬ k.toInt = 1) (h2 : ¬ k.toInt = 2) (h3 : ¬ k.toInt = 3 ∨ t.toInt = -1) : v = zSh k t v := by
  unfold zSh
  rw [if_neg h1, if_neg h2, if_neg (by omega)]
theorem zSh_3 {k t v : Int32} (hk : k.toInt = 3) (ht : ¬ t.toInt = -1) : t = zSh k t v := by
  unfold zSh
  rw [if_neg (by omega), if_neg (by omega), if_pos ⟨hk, ht⟩]
def zLwR (ho : Int32) (fC fV fK fT fS fU : Nat → Int32) (lw : Option ((Int → Int) × Int)) : Prop :=
  match lw with
  | none => ho.toInt = -1
  | some t => 0 ≤ ho.toInt ∧ zLR t.1 t.2 fC fV fK fT fS fU ho.toInt.toNat
theorem zLwR_n {ho : Int32} {fC fV fK fT fS fU : Nat → Int32} {lw : Option ((Int → Int) × Int)} (h : zLwR ho fC fV fK fT fS fU lw) (hh : ho.toInt = -1) : lw = none := by
  cases lw with
  | none => rfl
  | some t => exact absurd h.1 (by omega)
theorem zLwR_s {ho : Int32} {fC fV fK fT fS fU : Nat → Int32} {lw : Option ((Int → Int) × Int)} (h : zLwR ho fC fV fK fT fS fU lw) (hh : ¬ ho.toInt = -1) : ∃ t, lw = some t ∧ zLR t.1 t.2 fC fV fK fT fS fU ho.toInt.toNat := by
  cases lw with
  | none => exact absurd h hh
  | some t => exact ⟨t, rfl, h.2⟩
theorem zFl_mk {r x y v fe p : Int32} (er : r = if 0 < x then x else 0) (ex : x = p - y) (ey : y = v / 3) (ev : v = fe) : r = zFl fe p := by
  unfold zFl
  rw [er, ex, ey, ev]
theorem zlk_a {a b c d u w f y fe : Int32} (ea : a = b - c) (eb : b = f + u) (ec : c = d / 2) (hu : u = zFl fe y) (hd : d = w) : a = f + zFl fe y - w / 2 := by
  rw [ea, eb, ec, hu, hd]
