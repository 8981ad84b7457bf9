/-! behind a condition's first comparison, in the reference's rows -/
theorem erGo {f fC fV fC1 fV1 fC2 fV2 fC3 fV3 : Nat → Int32} {n a wr u wr2 u2 wr3 u3 : Int32} {o : Nat} {d d1 d2 d3 : Int} (hx : zW (sCmp (sB f n.toInt) n.toInt (sSum (sB f n.toInt) n.toInt 6) a.toInt) wr u) (h2 : ∀ x : Int × Int, zW x wr u → zW (sGl (sB f n.toInt) n.toInt oD (sUn (sB f n.toInt) n.toInt 6) x) wr2 u2) (h3 : ∀ x : Int × Int, zW x wr2 u2 → zW (sGl (sB f n.toInt) n.toInt oO (sTm (sB f n.toInt) n.toInt oD (sUn (sB f n.toInt) n.toInt 6)) x) wr3 u3) (hw : wr3.toInt = -1) (e1 : wr.toInt = -1 → zEr fC fV o d (eCmp (sB f n.toInt) n.toInt (eSum (sB f n.toInt) n.toInt 6) a.toInt) fC1 fV1 d1) (e2 : wr2.toInt = -1 → zEr fC1 fV1 o d1 (eL (sB f n.toInt) n.toInt oD (sUn (sB f n.toInt) n.toInt 6) (eUn (sB f n.toInt) n.toInt 6) (sk (sB f n.toInt) n.toInt u.toInt)) fC2 fV2 d2) (e3 : wr3.toInt = -1 → zEr fC2 fV2 o d2 (eL (sB f n.toInt) n.toInt oO (sTm (sB f n.toInt) n.toInt oD (sUn (sB f n.toInt) n.toInt 6)) (eTm (sB f n.toInt) n.toInt oD (sUn (sB f n.toInt) n.toInt 6) (eUn (sB f n.toInt) n.toInt 6)) (sk (sB f n.toInt) n.toInt u2.toInt)) fC3 fV3 d3) (h0 : 0 ≤ d) (h01 : 0 ≤ d1) : zEr fC fV o d (eGo (sB f n.toInt) n.toInt a.toInt) fC3 fV3 d3 := by
  have y2 := h2 _ hx
  have y3 := h3 _ y2
  have k2 : wr3.toInt = -1 → wr2.toInt = -1 := zGlk y2 y3
  have k1 : wr2.toInt = -1 → wr.toInt = -1 := zGlk hx y2
  unfold eGo
  generalize eCmp (sB f n.toInt) n.toInt (eSum (sB f n.toInt) n.toInt 6) a.toInt = L at e1 ⊢
  generalize sCmp (sB f n.toInt) n.toInt (sSum (sB f n.toInt) n.toInt 6) a.toInt = x at hx y2 y3 ⊢
  exact erTwo (x := x) (L := L) (sUn_mono _ _ 6) rfl hx y2 y3 hw k2 k1 e1 e2 e3 h0 h01
