theorem zd_u1 {code : ByteArray} {p : Nat} {b : UInt8} (h : code.data.toList[p]? = some b) : StateT.run (ReaderT.run (Jvm.ClassFile.Reader.u1 (ε := Jvm.ClassFile.DecodeError)) code) p = Except.ok (b.toNat, p + 1) := by
  obtain ⟨hp, e⟩ := List.getElem?_eq_some_iff.mp h
  have hs : p < code.size := hp
  have hb : code[p]'hs = b := e
  show (if h : p < code.size then (do set (p + 1); pure (code[p]'h).toNat : Jvm.ClassFile.Reader Jvm.ClassFile.DecodeError Nat) else throw (Jvm.ClassFile.HasTruncated.truncated p)) code p = _
  rw [dif_pos hs, hb]
  rfl
theorem zd_b {code : ByteArray} {α β : Type} (r : Jvm.ClassFile.Decoder α) (f : α → Jvm.ClassFile.Decoder β) (p q : Nat) (a : α) (h : StateT.run (ReaderT.run r code) p = Except.ok (a, q)) : StateT.run (ReaderT.run (r >>= f) code) p = StateT.run (ReaderT.run (f a) code) q := by
  show Except.bind (StateT.run (ReaderT.run r code) p) (fun v => StateT.run (ReaderT.run (f v.1) code) v.2) = _
  rw [h]
  rfl
theorem zd_d {code : ByteArray} {p q : Nat} {i : Jvm.ClassFile.Instr} {n : Nat} (h : StateT.run (ReaderT.run (Jvm.ClassFile.Decoder.instr p) code) p = Except.ok (i, q)) (hn : q = p + n) : decode code p = .ok (i, n) := by
  have e : decode code p = Except.bind (StateT.run (ReaderT.run (Jvm.ClassFile.Decoder.instr p) code) p) (fun v => Except.ok (v.1, v.2 - p)) := rfl
  rw [e, h]
  show Except.ok (i, q - p) = _
  rw [hn, Nat.add_sub_cancel_left]
theorem zd_o42 {code : ByteArray} {p : Nat} (h : code.data.toList[p]? = some 42) : decode code p = .ok (.aload_n 0, 1) := by
  refine zd_d (q := p + 1) ?_ rfl
  unfold Jvm.ClassFile.Decoder.instr
  rw [zd_b _ _ p (p + 1) 42 (zd_u1 h)]
  rfl
theorem zd_o43 {code : ByteArray} {p : Nat} (h : code.data.toList[p]? = some 43) : decode code p = .ok (.aload_n 1, 1) := by
  refine zd_d (q := p + 1) ?_ rfl
  unfold Jvm.ClassFile.Decoder.instr
  rw [zd_b _ _ p (p + 1) 43 (zd_u1 h)]
  rfl
theorem zd_o44 {code : ByteArray} {p : Nat} (h : code.data.toList[p]? = some 44) : decode code p = .ok (.aload_n 2, 1) := by
  refine zd_d (q := p + 1) ?_ rfl
  unfold Jvm.ClassFile.Decoder.instr
  rw [zd_b _ _ p (p + 1) 44 (zd_u1 h)]
  rfl
theorem zd_o45 {code : ByteArray} {p : Nat} (h : code.data.toList[p]? = some 45) : decode code p = .ok (.aload_n 3, 1) := by
  refine zd_d (q := p + 1) ?_ rfl
  unfold Jvm.ClassFile.Decoder.instr
  rw [zd_b _ _ p (p + 1) 45 (zd_u1 h)]
  rfl
theorem zd_o96 {code : ByteArray} {p : Nat} (h : code.data.toList[p]? = some 96) : decode code p = .ok (.iadd, 1) := by
  refine zd_d (q := p + 1) ?_ rfl
  unfold Jvm.ClassFile.Decoder.instr
  rw [zd_b _ _ p (p + 1) 96 (zd_u1 h)]
  rfl
theorem zd_o46 {code : ByteArray} {p : Nat} (h : code.data.toList[p]? = some 46) : decode code p = .ok (.iaload, 1) := by
  refine zd_d (q := p + 1) ?_ rfl
  unfold Jvm.ClassFile.Decoder.instr
  rw [zd_b _ _ p (p + 1) 46 (zd_u1 h)]
  rfl
theorem zd_o2 {code : ByteArray} {p : Nat} (h : code.data.toList[p]? = some 2) : decode code p = .ok (.iconst (-1), 1) := by
  refine zd_d (q := p + 1) ?_ rfl
  unfold Jvm.ClassFile.Decoder.instr
  rw [zd_b _ _ p (p + 1) 2 (zd_u1 h)]
  rfl
theorem zd_o3 {code : ByteArray} {p : Nat} (h : code.data.toList[p]? = some 3) : decode code p = .ok (.iconst 0, 1) := by
  refine zd_d (q := p + 1) ?_ rfl
  unfold Jvm.ClassFile.Decoder.instr
  rw [zd_b _ _ p (p + 1) 3 (zd_u1 h)]
  rfl
theorem zd_o4 {code : ByteArray} {p : Nat} (h : code.data.toList[p]? = some 4) : decode code p = .ok (.iconst 1, 1) := by
  refine zd_d (q := p + 1) ?_ rfl
  unfold Jvm.ClassFile.Decoder.instr
  rw [zd_b _ _ p (p + 1) 4 (zd_u1 h)]
  rfl
theorem zd_o5 {code : ByteArray} {p : Nat} (h : code.data.toList[p]? = some 5) : decode code p = .ok (.iconst 2, 1) := by
  refine zd_d (q := p + 1) ?_ rfl
  unfold Jvm.ClassFile.Decoder.instr
  rw [zd_b _ _ p (p + 1) 5 (zd_u1 h)]
  rfl
theorem zd_o6 {code : ByteArray} {p : Nat} (h : code.data.toList[p]? = some 6) : decode code p = .ok (.iconst 3, 1) := by
  refine zd_d (q := p + 1) ?_ rfl
  unfold Jvm.ClassFile.Decoder.instr
  rw [zd_b _ _ p (p + 1) 6 (zd_u1 h)]
  rfl
theorem zd_o7 {code : ByteArray} {p : Nat} (h : code.data.toList[p]? = some 7) : decode code p = .ok (.iconst 4, 1) := by
  refine zd_d (q := p + 1) ?_ rfl
  unfold Jvm.ClassFile.Decoder.instr
  rw [zd_b _ _ p (p + 1) 7 (zd_u1 h)]
  rfl
theorem zd_o8 {code : ByteArray} {p : Nat} (h : code.data.toList[p]? = some 8) : decode code p = .ok (.iconst 5, 1) := by
  refine zd_d (q := p + 1) ?_ rfl
  unfold Jvm.ClassFile.Decoder.instr
  rw [zd_b _ _ p (p + 1) 8 (zd_u1 h)]
  rfl
theorem zd_o87 {code : ByteArray} {p : Nat} (h : code.data.toList[p]? = some 87) : decode code p = .ok (.pop, 1) := by
  refine zd_d (q := p + 1) ?_ rfl
  unfold Jvm.ClassFile.Decoder.instr
  rw [zd_b _ _ p (p + 1) 87 (zd_u1 h)]
  rfl
theorem zd_iload {code : ByteArray} {p n : Nat} {b : UInt8} (h : code.data.toList[p]? = some 21) (h1 : code.data.toList[p + 1]? = some b) (hn : b.toNat = n) : decode code p = .ok (.iload n, 2) := by
  refine zd_d (q := p + 2) ?_ rfl
  unfold Jvm.ClassFile.Decoder.instr
  rw [zd_b _ _ p (p + 1) 21 (zd_u1 h)]
  show StateT.run (ReaderT.run ((Jvm.ClassFile.Reader.u1 (ε := Jvm.ClassFile.DecodeError)) >>= fun x => pure (Jvm.ClassFile.Instr.iload x)) code) (p + 1) = _
  rw [zd_b _ _ (p + 1) (p + 2) b.toNat (zd_u1 h1), hn]
  rfl
theorem zd_u2 {code : ByteArray} {p : Nat} {a b : UInt8} (h : code.data.toList[p]? = some a) (h1 : code.data.toList[p + 1]? = some b) : StateT.run (ReaderT.run (Jvm.ClassFile.Reader.u2 (ε := Jvm.ClassFile.DecodeError)) code) p = Except.ok (a.toNat * 256 + b.toNat, p + 2) := by
  unfold Jvm.ClassFile.Reader.u2
  rw [zd_b _ _ p (p + 1) a.toNat (zd_u1 h), zd_b _ _ (p + 1) (p + 2) b.toNat (zd_u1 h1)]
  rfl
theorem zd_invv {code : ByteArray} {p n : Nat} {a b : UInt8} (h : code.data.toList[p]? = some 182) (h1 : code.data.toList[p + 1]? = some a) (h2 : code.data.toList[p + 1 + 1]? = some b) (hn : a.toNat * 256 + b.toNat = n) : decode code p = .ok (.invokevirtual n, 3) := by
  refine zd_d (q := p + 3) ?_ rfl
  unfold Jvm.ClassFile.Decoder.instr
  rw [zd_b _ _ p (p + 1) 182 (zd_u1 h)]
  show StateT.run (ReaderT.run ((Jvm.ClassFile.Reader.u2 (ε := Jvm.ClassFile.DecodeError)) >>= fun x => pure (Jvm.ClassFile.Instr.invokevirtual x)) code) (p + 1) = _
  rw [zd_b _ _ (p + 1) (p + 3) (a.toNat * 256 + b.toNat) (zd_u2 h1 h2), hn]
  rfl
def zl_28 : List UInt8 := 222 :: 87 :: 167 :: 0 :: 3 :: 132 :: 4 :: 7 :: 167 :: 249 :: 15 :: 4 :: 172 :: []
def zl_27 : List UInt8 := 182 :: 0 :: 207 :: 87 :: 44 :: 42 :: 21 :: 4 :: 4 :: 96 :: 46 :: 182 :: 0 :: 210 :: 87 :: 167 :: 0 :: 54 :: 43 :: 182 :: 0 :: 211 :: 87 :: 44 :: 182 :: 0 :: 214 :: 87 :: 167 :: 0 :: 41 :: 43 :: 182 :: 0 :: 215 :: 87 :: 44 :: 182 :: 0 :: 218 :: 87 :: 167 :: 0 :: 28 :: 43 :: 42 :: 21 :: 4 :: 4 :: 96 :: 46 :: 182 :: 0 :: 219 :: 87 :: 44 :: 42 :: 21 :: 4 :: 4 :: 96 :: 46 :: 182 :: 0 :: zl_28
def zl_26 : List UInt8 := 182 :: 0 :: 198 :: 87 :: 167 :: 0 :: 129 :: 43 :: 42 :: 21 :: 4 :: 4 :: 96 :: 46 :: 182 :: 0 :: 199 :: 87 :: 44 :: 42 :: 21 :: 4 :: 4 :: 96 :: 46 :: 182 :: 0 :: 202 :: 87 :: 167 :: 0 :: 104 :: 43 :: 42 :: 21 :: 4 :: 4 :: 96 :: 46 :: 182 :: 0 :: 203 :: 87 :: 44 :: 42 :: 21 :: 4 :: 4 :: 96 :: 46 :: 182 :: 0 :: 206 :: 87 :: 167 :: 0 :: 79 :: 43 :: 42 :: 21 :: 4 :: 4 :: 96 :: 46 :: zl_27
def zl_25 : List UInt8 := 4 :: 96 :: 46 :: 182 :: 0 :: 187 :: 87 :: 44 :: 42 :: 21 :: 4 :: 4 :: 96 :: 46 :: 182 :: 0 :: 190 :: 87 :: 167 :: 0 :: 179 :: 43 :: 42 :: 21 :: 4 :: 4 :: 96 :: 46 :: 182 :: 0 :: 191 :: 87 :: 44 :: 42 :: 21 :: 4 :: 4 :: 96 :: 46 :: 182 :: 0 :: 194 :: 87 :: 167 :: 0 :: 154 :: 43 :: 42 :: 21 :: 4 :: 4 :: 96 :: 46 :: 182 :: 0 :: 195 :: 87 :: 44 :: 42 :: 21 :: 4 :: 4 :: 96 :: 46 :: zl_26
def zl_24 : List UInt8 := 21 :: 4 :: 6 :: 96 :: 46 :: 182 :: 0 :: 179 :: 87 :: 44 :: 42 :: 21 :: 4 :: 4 :: 96 :: 46 :: 42 :: 21 :: 4 :: 5 :: 96 :: 46 :: 42 :: 21 :: 4 :: 6 :: 96 :: 46 :: 182 :: 0 :: 182 :: 87 :: 167 :: 0 :: 229 :: 43 :: 42 :: 21 :: 4 :: 4 :: 96 :: 46 :: 182 :: 0 :: 183 :: 87 :: 44 :: 42 :: 21 :: 4 :: 4 :: 96 :: 46 :: 182 :: 0 :: 186 :: 87 :: 167 :: 0 :: 204 :: 43 :: 42 :: 21 :: 4 :: zl_25
def zl_23 : List UInt8 := 42 :: 21 :: 4 :: 4 :: 96 :: 46 :: 182 :: 0 :: 174 :: 87 :: 167 :: 1 :: 59 :: 43 :: 42 :: 21 :: 4 :: 4 :: 96 :: 46 :: 42 :: 21 :: 4 :: 5 :: 96 :: 46 :: 182 :: 0 :: 175 :: 87 :: 44 :: 42 :: 21 :: 4 :: 4 :: 96 :: 46 :: 42 :: 21 :: 4 :: 5 :: 96 :: 46 :: 182 :: 0 :: 178 :: 87 :: 167 :: 1 :: 22 :: 43 :: 42 :: 21 :: 4 :: 4 :: 96 :: 46 :: 42 :: 21 :: 4 :: 5 :: 96 :: 46 :: 42 :: zl_24
def zl_22 : List UInt8 := 96 :: 46 :: 42 :: 21 :: 4 :: 5 :: 96 :: 46 :: 182 :: 0 :: 166 :: 87 :: 167 :: 1 :: 121 :: 43 :: 42 :: 21 :: 4 :: 4 :: 96 :: 46 :: 42 :: 21 :: 4 :: 5 :: 96 :: 46 :: 182 :: 0 :: 167 :: 87 :: 44 :: 42 :: 21 :: 4 :: 4 :: 96 :: 46 :: 42 :: 21 :: 4 :: 5 :: 96 :: 46 :: 182 :: 0 :: 170 :: 87 :: 167 :: 1 :: 84 :: 43 :: 42 :: 21 :: 4 :: 4 :: 96 :: 46 :: 182 :: 0 :: 171 :: 87 :: 44 :: zl_23
def zl_21 : List UInt8 := 42 :: 21 :: 4 :: 7 :: 96 :: 46 :: 182 :: 0 :: 158 :: 87 :: 44 :: 42 :: 21 :: 4 :: 4 :: 96 :: 46 :: 42 :: 21 :: 4 :: 5 :: 96 :: 46 :: 42 :: 21 :: 4 :: 6 :: 96 :: 46 :: 42 :: 21 :: 4 :: 7 :: 96 :: 46 :: 182 :: 0 :: 162 :: 87 :: 167 :: 1 :: 158 :: 43 :: 42 :: 21 :: 4 :: 4 :: 96 :: 46 :: 42 :: 21 :: 4 :: 5 :: 96 :: 46 :: 182 :: 0 :: 163 :: 87 :: 44 :: 42 :: 21 :: 4 :: 4 :: zl_22
def zl_20 : List UInt8 := 44 :: 42 :: 21 :: 4 :: 4 :: 96 :: 46 :: 42 :: 21 :: 4 :: 5 :: 96 :: 46 :: 42 :: 21 :: 4 :: 6 :: 96 :: 46 :: 42 :: 21 :: 4 :: 7 :: 96 :: 46 :: 42 :: 21 :: 4 :: 8 :: 96 :: 46 :: 42 :: 21 :: 4 :: 16 :: 6 :: 96 :: 46 :: 182 :: 0 :: 157 :: 87 :: 167 :: 1 :: 219 :: 43 :: 42 :: 21 :: 4 :: 4 :: 96 :: 46 :: 42 :: 21 :: 4 :: 5 :: 96 :: 46 :: 42 :: 21 :: 4 :: 6 :: 96 :: 46 :: zl_21
def zl_19 : List UInt8 := 4 :: 4 :: 96 :: 46 :: 182 :: 0 :: 149 :: 87 :: 44 :: 42 :: 21 :: 4 :: 4 :: 96 :: 46 :: 182 :: 0 :: 152 :: 87 :: 167 :: 2 :: 50 :: 43 :: 42 :: 21 :: 4 :: 4 :: 96 :: 46 :: 42 :: 21 :: 4 :: 5 :: 96 :: 46 :: 42 :: 21 :: 4 :: 6 :: 96 :: 46 :: 42 :: 21 :: 4 :: 7 :: 96 :: 46 :: 42 :: 21 :: 4 :: 8 :: 96 :: 46 :: 42 :: 21 :: 4 :: 16 :: 6 :: 96 :: 46 :: 182 :: 0 :: 153 :: 87 :: zl_20
def zl_18 : List UInt8 := 42 :: 21 :: 4 :: 4 :: 96 :: 46 :: 182 :: 0 :: 141 :: 87 :: 44 :: 42 :: 21 :: 4 :: 4 :: 96 :: 46 :: 182 :: 0 :: 144 :: 87 :: 167 :: 2 :: 112 :: 43 :: 42 :: 21 :: 4 :: 4 :: 96 :: 46 :: 42 :: 21 :: 4 :: 5 :: 96 :: 46 :: 182 :: 0 :: 145 :: 87 :: 44 :: 42 :: 21 :: 4 :: 4 :: 96 :: 46 :: 42 :: 21 :: 4 :: 5 :: 96 :: 46 :: 182 :: 0 :: 148 :: 87 :: 167 :: 2 :: 75 :: 43 :: 42 :: 21 :: zl_19
def zl_17 : List UInt8 := 199 :: 43 :: 42 :: 21 :: 4 :: 4 :: 96 :: 46 :: 42 :: 21 :: 4 :: 5 :: 96 :: 46 :: 182 :: 0 :: 133 :: 87 :: 44 :: 42 :: 21 :: 4 :: 4 :: 96 :: 46 :: 42 :: 21 :: 4 :: 5 :: 96 :: 46 :: 182 :: 0 :: 136 :: 87 :: 167 :: 2 :: 162 :: 43 :: 42 :: 21 :: 4 :: 4 :: 96 :: 46 :: 182 :: 0 :: 137 :: 87 :: 44 :: 42 :: 21 :: 4 :: 4 :: 96 :: 46 :: 182 :: 0 :: 140 :: 87 :: 167 :: 2 :: 137 :: 43 :: zl_18
def zl_16 : List UInt8 := 4 :: 5 :: 96 :: 46 :: 182 :: 0 :: 125 :: 87 :: 44 :: 42 :: 21 :: 4 :: 4 :: 96 :: 46 :: 42 :: 21 :: 4 :: 5 :: 96 :: 46 :: 182 :: 0 :: 128 :: 87 :: 167 :: 2 :: 236 :: 43 :: 42 :: 21 :: 4 :: 4 :: 96 :: 46 :: 42 :: 21 :: 4 :: 5 :: 96 :: 46 :: 182 :: 0 :: 129 :: 87 :: 44 :: 42 :: 21 :: 4 :: 4 :: 96 :: 46 :: 42 :: 21 :: 4 :: 5 :: 96 :: 46 :: 182 :: 0 :: 132 :: 87 :: 167 :: 2 :: zl_17
def zl_15 : List UInt8 := 42 :: 21 :: 4 :: 5 :: 96 :: 46 :: 182 :: 0 :: 117 :: 87 :: 44 :: 42 :: 21 :: 4 :: 4 :: 96 :: 46 :: 42 :: 21 :: 4 :: 5 :: 96 :: 46 :: 182 :: 0 :: 120 :: 87 :: 167 :: 3 :: 42 :: 43 :: 42 :: 21 :: 4 :: 4 :: 96 :: 46 :: 182 :: 0 :: 121 :: 87 :: 44 :: 42 :: 21 :: 4 :: 4 :: 96 :: 46 :: 182 :: 0 :: 124 :: 87 :: 167 :: 3 :: 17 :: 43 :: 42 :: 21 :: 4 :: 4 :: 96 :: 46 :: 42 :: 21 :: zl_16
def zl_14 : List UInt8 := 42 :: 21 :: 4 :: 6 :: 96 :: 46 :: 133 :: 20 :: 0 :: 102 :: 127 :: 129 :: 182 :: 0 :: 108 :: 87 :: 167 :: 3 :: 117 :: 43 :: 42 :: 21 :: 4 :: 4 :: 96 :: 46 :: 182 :: 0 :: 109 :: 87 :: 44 :: 42 :: 21 :: 4 :: 4 :: 96 :: 46 :: 182 :: 0 :: 112 :: 87 :: 167 :: 3 :: 92 :: 43 :: 182 :: 0 :: 113 :: 87 :: 44 :: 182 :: 0 :: 116 :: 87 :: 167 :: 3 :: 79 :: 43 :: 42 :: 21 :: 4 :: 4 :: 96 :: 46 :: zl_15
def zl_13 : List UInt8 := 44 :: 42 :: 21 :: 4 :: 4 :: 96 :: 46 :: 182 :: 0 :: 101 :: 87 :: 167 :: 3 :: 186 :: 43 :: 42 :: 21 :: 4 :: 4 :: 96 :: 46 :: 42 :: 21 :: 4 :: 5 :: 96 :: 46 :: 133 :: 16 :: 32 :: 121 :: 42 :: 21 :: 4 :: 6 :: 96 :: 46 :: 133 :: 20 :: 0 :: 102 :: 127 :: 129 :: 182 :: 0 :: 104 :: 87 :: 44 :: 42 :: 21 :: 4 :: 4 :: 96 :: 46 :: 42 :: 21 :: 4 :: 5 :: 96 :: 46 :: 133 :: 16 :: 32 :: 121 :: zl_14
def zl_12 : List UInt8 := 87 :: 44 :: 42 :: 21 :: 4 :: 4 :: 96 :: 46 :: 182 :: 0 :: 88 :: 87 :: 167 :: 3 :: 249 :: 43 :: 182 :: 0 :: 89 :: 87 :: 44 :: 182 :: 0 :: 93 :: 87 :: 167 :: 3 :: 236 :: 43 :: 42 :: 21 :: 4 :: 4 :: 96 :: 46 :: 182 :: 0 :: 94 :: 87 :: 44 :: 42 :: 21 :: 4 :: 4 :: 96 :: 46 :: 182 :: 0 :: 97 :: 87 :: 167 :: 3 :: 211 :: 43 :: 42 :: 21 :: 4 :: 4 :: 96 :: 46 :: 182 :: 0 :: 98 :: 87 :: zl_13
def zl_11 : List UInt8 := 87 :: 167 :: 4 :: 68 :: 43 :: 42 :: 21 :: 4 :: 4 :: 96 :: 46 :: 182 :: 0 :: 77 :: 87 :: 44 :: 42 :: 21 :: 4 :: 4 :: 96 :: 46 :: 182 :: 0 :: 80 :: 87 :: 167 :: 4 :: 43 :: 43 :: 42 :: 21 :: 4 :: 4 :: 96 :: 46 :: 182 :: 0 :: 81 :: 87 :: 44 :: 42 :: 21 :: 4 :: 4 :: 96 :: 46 :: 182 :: 0 :: 84 :: 87 :: 167 :: 4 :: 18 :: 43 :: 42 :: 21 :: 4 :: 4 :: 96 :: 46 :: 182 :: 0 :: 85 :: zl_12
def zl_10 : List UInt8 := 0 :: 68 :: 87 :: 167 :: 4 :: 130 :: 43 :: 42 :: 21 :: 4 :: 4 :: 96 :: 46 :: 42 :: 21 :: 4 :: 5 :: 96 :: 46 :: 182 :: 0 :: 69 :: 87 :: 44 :: 42 :: 21 :: 4 :: 4 :: 96 :: 46 :: 42 :: 21 :: 4 :: 5 :: 96 :: 46 :: 182 :: 0 :: 72 :: 87 :: 167 :: 4 :: 93 :: 43 :: 42 :: 21 :: 4 :: 4 :: 96 :: 46 :: 182 :: 0 :: 73 :: 87 :: 44 :: 42 :: 21 :: 4 :: 4 :: 96 :: 46 :: 182 :: 0 :: 76 :: zl_11
def zl_9 : List UInt8 := 6 :: 96 :: 46 :: 182 :: 0 :: 60 :: 87 :: 44 :: 42 :: 21 :: 4 :: 4 :: 96 :: 46 :: 42 :: 21 :: 4 :: 5 :: 96 :: 46 :: 42 :: 21 :: 4 :: 6 :: 96 :: 46 :: 182 :: 0 :: 64 :: 87 :: 167 :: 4 :: 167 :: 43 :: 42 :: 21 :: 4 :: 4 :: 96 :: 46 :: 42 :: 21 :: 4 :: 5 :: 96 :: 46 :: 182 :: 0 :: 65 :: 87 :: 44 :: 42 :: 21 :: 4 :: 4 :: 96 :: 46 :: 42 :: 21 :: 4 :: 5 :: 96 :: 46 :: 182 :: zl_10
def zl_8 : List UInt8 := 4 :: 96 :: 46 :: 182 :: 0 :: 55 :: 159 :: 4 :: 255 :: 3 :: 172 :: 43 :: 42 :: 21 :: 4 :: 4 :: 96 :: 46 :: 42 :: 21 :: 4 :: 5 :: 96 :: 46 :: 182 :: 0 :: 56 :: 87 :: 44 :: 42 :: 21 :: 4 :: 4 :: 96 :: 46 :: 42 :: 21 :: 4 :: 5 :: 96 :: 46 :: 182 :: 0 :: 59 :: 87 :: 167 :: 4 :: 216 :: 43 :: 42 :: 21 :: 4 :: 4 :: 96 :: 46 :: 42 :: 21 :: 4 :: 5 :: 96 :: 46 :: 42 :: 21 :: 4 :: zl_9
def zl_7 : List UInt8 := 21 :: 4 :: 5 :: 96 :: 46 :: 182 :: 0 :: 47 :: 54 :: 6 :: 167 :: 5 :: 59 :: 43 :: 42 :: 21 :: 4 :: 4 :: 96 :: 46 :: 42 :: 21 :: 4 :: 5 :: 96 :: 46 :: 182 :: 0 :: 48 :: 87 :: 44 :: 42 :: 21 :: 4 :: 4 :: 96 :: 46 :: 42 :: 21 :: 4 :: 5 :: 96 :: 46 :: 182 :: 0 :: 51 :: 87 :: 167 :: 5 :: 22 :: 43 :: 42 :: 21 :: 4 :: 4 :: 96 :: 46 :: 182 :: 0 :: 52 :: 44 :: 42 :: 21 :: 4 :: zl_8
def zl_6 : List UInt8 := 21 :: 4 :: 4 :: 96 :: 46 :: 182 :: 0 :: 37 :: 87 :: 167 :: 5 :: 124 :: 43 :: 42 :: 21 :: 4 :: 4 :: 96 :: 46 :: 182 :: 0 :: 38 :: 87 :: 44 :: 42 :: 21 :: 4 :: 4 :: 96 :: 46 :: 182 :: 0 :: 41 :: 87 :: 167 :: 5 :: 99 :: 43 :: 42 :: 21 :: 4 :: 4 :: 96 :: 46 :: 42 :: 21 :: 4 :: 5 :: 96 :: 46 :: 45 :: 184 :: 0 :: 42 :: 54 :: 5 :: 44 :: 42 :: 21 :: 4 :: 4 :: 96 :: 46 :: 42 :: zl_7
def zl_5 : List UInt8 := 199 :: 43 :: 42 :: 21 :: 4 :: 4 :: 96 :: 46 :: 182 :: 0 :: 24 :: 87 :: 44 :: 42 :: 21 :: 4 :: 4 :: 96 :: 46 :: 182 :: 0 :: 28 :: 87 :: 167 :: 5 :: 174 :: 43 :: 42 :: 21 :: 4 :: 4 :: 96 :: 46 :: 182 :: 0 :: 29 :: 87 :: 44 :: 42 :: 21 :: 4 :: 4 :: 96 :: 46 :: 182 :: 0 :: 33 :: 87 :: 167 :: 5 :: 149 :: 43 :: 42 :: 21 :: 4 :: 4 :: 96 :: 46 :: 182 :: 0 :: 34 :: 87 :: 44 :: 42 :: zl_6
def zl_4 : List UInt8 := 21 :: 4 :: 5 :: 96 :: 46 :: 42 :: 21 :: 4 :: 6 :: 96 :: 46 :: 42 :: 21 :: 4 :: 7 :: 96 :: 46 :: 42 :: 21 :: 4 :: 8 :: 96 :: 46 :: 182 :: 0 :: 19 :: 87 :: 44 :: 42 :: 21 :: 4 :: 4 :: 96 :: 46 :: 42 :: 21 :: 4 :: 5 :: 96 :: 46 :: 42 :: 21 :: 4 :: 6 :: 96 :: 46 :: 42 :: 21 :: 4 :: 7 :: 96 :: 46 :: 42 :: 21 :: 4 :: 8 :: 96 :: 46 :: 182 :: 0 :: 23 :: 87 :: 167 :: 5 :: zl_5
def zl_3 : List UInt8 := 0 :: 0 :: 5 :: 103 :: 0 :: 0 :: 5 :: 140 :: 0 :: 0 :: 5 :: 165 :: 0 :: 0 :: 5 :: 202 :: 0 :: 0 :: 5 :: 251 :: 0 :: 0 :: 6 :: 20 :: 0 :: 0 :: 6 :: 45 :: 0 :: 0 :: 6 :: 70 :: 0 :: 0 :: 6 :: 95 :: 0 :: 0 :: 6 :: 120 :: 0 :: 0 :: 6 :: 145 :: 0 :: 0 :: 6 :: 170 :: 0 :: 0 :: 6 :: 183 :: 0 :: 0 :: 6 :: 196 :: 43 :: 42 :: 21 :: 4 :: 4 :: 96 :: 46 :: 42 :: zl_4
def zl_2 : List UInt8 := 0 :: 0 :: 3 :: 13 :: 0 :: 0 :: 3 :: 38 :: 0 :: 0 :: 3 :: 107 :: 0 :: 0 :: 3 :: 132 :: 0 :: 0 :: 3 :: 145 :: 0 :: 0 :: 3 :: 182 :: 0 :: 0 :: 3 :: 207 :: 0 :: 0 :: 3 :: 244 :: 0 :: 0 :: 4 :: 25 :: 0 :: 0 :: 4 :: 62 :: 0 :: 0 :: 4 :: 87 :: 0 :: 0 :: 4 :: 112 :: 0 :: 0 :: 4 :: 149 :: 0 :: 0 :: 4 :: 174 :: 0 :: 0 :: 5 :: 5 :: 0 :: 0 :: 5 :: 66 :: zl_3
def zl_1 : List UInt8 := 0 :: 0 :: 1 :: 50 :: 0 :: 0 :: 1 :: 75 :: 0 :: 0 :: 1 :: 100 :: 0 :: 0 :: 1 :: 125 :: 0 :: 0 :: 1 :: 165 :: 0 :: 0 :: 1 :: 202 :: 0 :: 0 :: 1 :: 227 :: 0 :: 0 :: 2 :: 8 :: 0 :: 0 :: 2 :: 57 :: 0 :: 0 :: 2 :: 94 :: 0 :: 0 :: 2 :: 131 :: 0 :: 0 :: 2 :: 156 :: 0 :: 0 :: 2 :: 181 :: 0 :: 0 :: 2 :: 206 :: 0 :: 0 :: 2 :: 231 :: 0 :: 0 :: 2 :: 244 :: zl_2
def zl_0 : List UInt8 := 187 :: 0 :: 8 :: 89 :: 183 :: 0 :: 15 :: 76 :: 187 :: 0 :: 16 :: 89 :: 183 :: 0 :: 18 :: 77 :: 4 :: 188 :: 11 :: 78 :: 3 :: 54 :: 4 :: 21 :: 4 :: 42 :: 190 :: 16 :: 7 :: 100 :: 163 :: 6 :: 237 :: 42 :: 21 :: 4 :: 46 :: 16 :: 63 :: 126 :: 170 :: 0 :: 0 :: 0 :: 0 :: 0 :: 6 :: 221 :: 0 :: 0 :: 0 :: 0 :: 0 :: 0 :: 0 :: 47 :: 0 :: 0 :: 0 :: 208 :: 0 :: 0 :: 1 :: 25 :: zl_1
set_option maxRecDepth 100000 in
theorem zd_c : code.data.toList = zl_0 := by decide +kernel
theorem zl_s {l m : List UInt8} {q j i : Nat} {b : UInt8} (H : ∀ (j i : Nat) (b : UInt8), l[j]? = some b → i = q + j → code.data.toList[i]? = some b) (h : ∀ j : Nat, l[64 + j]? = m[j]?) (hm : m[j]? = some b) (hi : i = q + 64 + j) : code.data.toList[i]? = some b := H (64 + j) i b ((h j).trans hm) (by omega)
theorem zt_0 : ∀ (j i : Nat) (b : UInt8), zl_0[j]? = some b → i = 0 + j → code.data.toList[i]? = some b := fun j i b h e => by
  rw [zd_c, e, Nat.zero_add]
  exact h
theorem zt_1 : ∀ (j i : Nat) (b : UInt8), zl_1[j]? = some b → i = 64 + j → code.data.toList[i]? = some b := fun j i b h e => zl_s (l := zl_0) (q := 0) zt_0 (fun j => by rw [Nat.add_comm]; rfl) h e
theorem zt_2 : ∀ (j i : Nat) (b : UInt8), zl_2[j]? = some b → i = 128 + j → code.data.toList[i]? = some b := fun j i b h e => zl_s (l := zl_1) (q := 64) zt_1 (fun j => by rw [Nat.add_comm]; rfl) h e
theorem zt_3 : ∀ (j i : Nat) (b : UInt8), zl_3[j]? = some b → i = 192 + j → code.data.toList[i]? = some b := fun j i b h e => zl_s (l := zl_2) (q := 128) zt_2 (fun j => by rw [Nat.add_comm]; rfl) h e
theorem zt_4 : ∀ (j i : Nat) (b : UInt8), zl_4[j]? = some b → i = 256 + j → code.data.toList[i]? = some b := fun j i b h e => zl_s (l := zl_3) (q := 192) zt_3 (fun j => by rw [Nat.add_comm]; rfl) h e
theorem zt_5 : ∀ (j i : Nat) (b : UInt8), zl_5[j]? = some b → i = 320 + j → code.data.toList[i]? = some b := fun j i b h e => zl_s (l := zl_4) (q := 256) zt_4 (fun j => by rw [Nat.add_comm]; rfl) h e
theorem zt_6 : ∀ (j i : Nat) (b : UInt8), zl_6[j]? = some b → i = 384 + j → code.data.toList[i]? = some b := fun j i b h e => zl_s (l := zl_5) (q := 320) zt_5 (fun j => by rw [Nat.add_comm]; rfl) h e
theorem zt_7 : ∀ (j i : Nat) (b : UInt8), zl_7[j]? = some b → i = 448 + j → code.data.toList[i]? = some b := fun j i b h e => zl_s (l := zl_6) (q := 384) zt_6 (fun j => by rw [Nat.add_comm]; rfl) h e
theorem zt_8 : ∀ (j i : Nat) (b : UInt8), zl_8[j]? = some b → i = 512 + j → code.data.toList[i]? = some b := fun j i b h e => zl_s (l := zl_7) (q := 448) zt_7 (fun j => by rw [Nat.add_comm]; rfl) h e
theorem zt_9 : ∀ (j i : Nat) (b : UInt8), zl_9[j]? = some b → i = 576 + j → code.data.toList[i]? = some b := fun j i b h e => zl_s (l := zl_8) (q := 512) zt_8 (fun j => by rw [Nat.add_comm]; rfl) h e
theorem zt_10 : ∀ (j i : Nat) (b : UInt8), zl_10[j]? = some b → i = 640 + j → code.data.toList[i]? = some b := fun j i b h e => zl_s (l := zl_9) (q := 576) zt_9 (fun j => by rw [Nat.add_comm]; rfl) h e
theorem zt_11 : ∀ (j i : Nat) (b : UInt8), zl_11[j]? = some b → i = 704 + j → code.data.toList[i]? = some b := fun j i b h e => zl_s (l := zl_10) (q := 640) zt_10 (fun j => by rw [Nat.add_comm]; rfl) h e
theorem zt_12 : ∀ (j i : Nat) (b : UInt8), zl_12[j]? = some b → i = 768 + j → code.data.toList[i]? = some b := fun j i b h e => zl_s (l := zl_11) (q := 704) zt_11 (fun j => by rw [Nat.add_comm]; rfl) h e
theorem zt_13 : ∀ (j i : Nat) (b : UInt8), zl_13[j]? = some b → i = 832 + j → code.data.toList[i]? = some b := fun j i b h e => zl_s (l := zl_12) (q := 768) zt_12 (fun j => by rw [Nat.add_comm]; rfl) h e
theorem zt_14 : ∀ (j i : Nat) (b : UInt8), zl_14[j]? = some b → i = 896 + j → code.data.toList[i]? = some b := fun j i b h e => zl_s (l := zl_13) (q := 832) zt_13 (fun j => by rw [Nat.add_comm]; rfl) h e
theorem zt_15 : ∀ (j i : Nat) (b : UInt8), zl_15[j]? = some b → i = 960 + j → code.data.toList[i]? = some b := fun j i b h e => zl_s (l := zl_14) (q := 896) zt_14 (fun j => by rw [Nat.add_comm]; rfl) h e
theorem zt_16 : ∀ (j i : Nat) (b : UInt8), zl_16[j]? = some b → i = 1024 + j → code.data.toList[i]? = some b := fun j i b h e => zl_s (l := zl_15) (q := 960) zt_15 (fun j => by rw [Nat.add_comm]; rfl) h e
theorem zt_17 : ∀ (j i : Nat) (b : UInt8), zl_17[j]? = some b → i = 1088 + j → code.data.toList[i]? = some b := fun j i b h e => zl_s (l := zl_16) (q := 1024) zt_16 (fun j => by rw [Nat.add_comm]; rfl) h e
theorem zt_18 : ∀ (j i : Nat) (b : UInt8), zl_18[j]? = some b → i = 1152 + j → code.data.toList[i]? = some b := fun j i b h e => zl_s (l := zl_17) (q := 1088) zt_17 (fun j => by rw [Nat.add_comm]; rfl) h e
theorem zt_19 : ∀ (j i : Nat) (b : UInt8), zl_19[j]? = some b → i = 1216 + j → code.data.toList[i]? = some b := fun j i b h e => zl_s (l := zl_18) (q := 1152) zt_18 (fun j => by rw [Nat.add_comm]; rfl) h e
theorem zt_20 : ∀ (j i : Nat) (b : UInt8), zl_20[j]? = some b → i = 1280 + j → code.data.toList[i]? = some b := fun j i b h e => zl_s (l := zl_19) (q := 1216) zt_19 (fun j => by rw [Nat.add_comm]; rfl) h e
theorem zt_21 : ∀ (j i : Nat) (b : UInt8), zl_21[j]? = some b → i = 1344 + j → code.data.toList[i]? = some b := fun j i b h e => zl_s (l := zl_20) (q := 1280) zt_20 (fun j => by rw [Nat.add_comm]; rfl) h e
theorem zt_22 : ∀ (j i : Nat) (b : UInt8), zl_22[j]? = some b → i = 1408 + j → code.data.toList[i]? = some b := fun j i b h e => zl_s (l := zl_21) (q := 1344) zt_21 (fun j => by rw [Nat.add_comm]; rfl) h e
theorem zt_23 : ∀ (j i : Nat) (b : UInt8), zl_23[j]? = some b → i = 1472 + j → code.data.toList[i]? = some b := fun j i b h e => zl_s (l := zl_22) (q := 1408) zt_22 (fun j => by rw [Nat.add_comm]; rfl) h e
theorem zt_24 : ∀ (j i : Nat) (b : UInt8), zl_24[j]? = some b → i = 1536 + j → code.data.toList[i]? = some b := fun j i b h e => zl_s (l := zl_23) (q := 1472) zt_23 (fun j => by rw [Nat.add_comm]; rfl) h e
theorem zt_25 : ∀ (j i : Nat) (b : UInt8), zl_25[j]? = some b → i = 1600 + j → code.data.toList[i]? = some b := fun j i b h e => zl_s (l := zl_24) (q := 1536) zt_24 (fun j => by rw [Nat.add_comm]; rfl) h e
theorem zt_26 : ∀ (j i : Nat) (b : UInt8), zl_26[j]? = some b → i = 1664 + j → code.data.toList[i]? = some b := fun j i b h e => zl_s (l := zl_25) (q := 1600) zt_25 (fun j => by rw [Nat.add_comm]; rfl) h e
theorem zt_27 : ∀ (j i : Nat) (b : UInt8), zl_27[j]? = some b → i = 1728 + j → code.data.toList[i]? = some b := fun j i b h e => zl_s (l := zl_26) (q := 1664) zt_26 (fun j => by rw [Nat.add_comm]; rfl) h e
theorem zt_28 : ∀ (j i : Nat) (b : UInt8), zl_28[j]? = some b → i = 1792 + j → code.data.toList[i]? = some b := fun j i b h e => zl_s (l := zl_27) (q := 1728) zt_27 (fun j => by rw [Nat.add_comm]; rfl) h e
theorem zy_16 : code.data.toList[16]? = some 4 := zt_0 16 16 4 rfl rfl
theorem zy_20 : code.data.toList[20]? = some 3 := zt_0 20 20 3 rfl rfl
theorem zy_23 : code.data.toList[23]? = some 21 := zt_0 23 23 21 rfl rfl
theorem zy_24 : code.data.toList[24]? = some 4 := zt_0 24 24 4 rfl rfl
theorem zy_25 : code.data.toList[25]? = some 42 := zt_0 25 25 42 rfl rfl
theorem zy_33 : code.data.toList[33]? = some 42 := zt_0 33 33 42 rfl rfl
theorem zy_34 : code.data.toList[34]? = some 21 := zt_0 34 34 21 rfl rfl
theorem zy_35 : code.data.toList[35]? = some 4 := zt_0 35 35 4 rfl rfl
theorem zy_36 : code.data.toList[36]? = some 46 := zt_0 36 36 46 rfl rfl
theorem zy_248 : code.data.toList[248]? = some 43 := zt_3 56 248 43 rfl rfl
theorem zy_249 : code.data.toList[249]? = some 42 := zt_3 57 249 42 rfl rfl
theorem zy_250 : code.data.toList[250]? = some 21 := zt_3 58 250 21 rfl rfl
theorem zy_251 : code.data.toList[251]? = some 4 := zt_3 59 251 4 rfl rfl
theorem zy_252 : code.data.toList[252]? = some 4 := zt_3 60 252 4 rfl rfl
theorem zy_253 : code.data.toList[253]? = some 96 := zt_3 61 253 96 rfl rfl
theorem zy_254 : code.data.toList[254]? = some 46 := zt_3 62 254 46 rfl rfl
theorem zy_255 : code.data.toList[255]? = some 42 := zt_3 63 255 42 rfl rfl
theorem zy_256 : code.data.toList[256]? = some 21 := zt_4 0 256 21 rfl rfl
theorem zy_257 : code.data.toList[257]? = some 4 := zt_4 1 257 4 rfl rfl
theorem zy_258 : code.data.toList[258]? = some 5 := zt_4 2 258 5 rfl rfl
theorem zy_259 : code.data.toList[259]? = some 96 := zt_4 3 259 96 rfl rfl
theorem zy_260 : code.data.toList[260]? = some 46 := zt_4 4 260 46 rfl rfl
theorem zy_261 : code.data.toList[261]? = some 42 := zt_4 5 261 42 rfl rfl
theorem zy_262 : code.data.toList[262]? = some 21 := zt_4 6 262 21 rfl rfl
theorem zy_263 : code.data.toList[263]? = some 4 := zt_4 7 263 4 rfl rfl
theorem zy_264 : code.data.toList[264]? = some 6 := zt_4 8 264 6 rfl rfl
theorem zy_265 : code.data.toList[265]? = some 96 := zt_4 9 265 96 rfl rfl
theorem zy_266 : code.data.toList[266]? = some 46 := zt_4 10 266 46 rfl rfl
theorem zy_267 : code.data.toList[267]? = some 42 := zt_4 11 267 42 rfl rfl
theorem zy_268 : code.data.toList[268]? = some 21 := zt_4 12 268 21 rfl rfl
theorem zy_269 : code.data.toList[269]? = some 4 := zt_4 13 269 4 rfl rfl
theorem zy_270 : code.data.toList[270]? = some 7 := zt_4 14 270 7 rfl rfl
theorem zy_271 : code.data.toList[271]? = some 96 := zt_4 15 271 96 rfl rfl
theorem zy_272 : code.data.toList[272]? = some 46 := zt_4 16 272 46 rfl rfl
theorem zy_273 : code.data.toList[273]? = some 42 := zt_4 17 273 42 rfl rfl
theorem zy_274 : code.data.toList[274]? = some 21 := zt_4 18 274 21 rfl rfl
theorem zy_275 : code.data.toList[275]? = some 4 := zt_4 19 275 4 rfl rfl
theorem zy_276 : code.data.toList[276]? = some 8 := zt_4 20 276 8 rfl rfl
theorem zy_277 : code.data.toList[277]? = some 96 := zt_4 21 277 96 rfl rfl
theorem zy_278 : code.data.toList[278]? = some 46 := zt_4 22 278 46 rfl rfl
theorem zy_279 : code.data.toList[279]? = some 182 := zt_4 23 279 182 rfl rfl
theorem zy_280 : code.data.toList[280]? = some 0 := zt_4 24 280 0 rfl rfl
theorem zy_281 : code.data.toList[281]? = some 19 := zt_4 25 281 19 rfl rfl
theorem zy_282 : code.data.toList[282]? = some 87 := zt_4 26 282 87 rfl rfl
theorem zy_283 : code.data.toList[283]? = some 44 := zt_4 27 283 44 rfl rfl
theorem zy_284 : code.data.toList[284]? = some 42 := zt_4 28 284 42 rfl rfl
theorem zy_285 : code.data.toList[285]? = some 21 := zt_4 29 285 21 rfl rfl
theorem zy_286 : code.data.toList[286]? = some 4 := zt_4 30 286 4 rfl rfl
theorem zy_287 : code.data.toList[287]? = some 4 := zt_4 31 287 4 rfl rfl
theorem zy_288 : code.data.toList[288]? = some 96 := zt_4 32 288 96 rfl rfl
theorem zy_289 : code.data.toList[289]? = some 46 := zt_4 33 289 46 rfl rfl
theorem zy_290 : code.data.toList[290]? = some 42 := zt_4 34 290 42 rfl rfl
theorem zy_291 : code.data.toList[291]? = some 21 := zt_4 35 291 21 rfl rfl
theorem zy_292 : code.data.toList[292]? = some 4 := zt_4 36 292 4 rfl rfl
theorem zy_293 : code.data.toList[293]? = some 5 := zt_4 37 293 5 rfl rfl
theorem zy_294 : code.data.toList[294]? = some 96 := zt_4 38 294 96 rfl rfl
theorem zy_295 : code.data.toList[295]? = some 46 := zt_4 39 295 46 rfl rfl
theorem zy_296 : code.data.toList[296]? = some 42 := zt_4 40 296 42 rfl rfl
theorem zy_297 : code.data.toList[297]? = some 21 := zt_4 41 297 21 rfl rfl
theorem zy_298 : code.data.toList[298]? = some 4 := zt_4 42 298 4 rfl rfl
theorem zy_299 : code.data.toList[299]? = some 6 := zt_4 43 299 6 rfl rfl
theorem zy_300 : code.data.toList[300]? = some 96 := zt_4 44 300 96 rfl rfl
theorem zy_301 : code.data.toList[301]? = some 46 := zt_4 45 301 46 rfl rfl
theorem zy_302 : code.data.toList[302]? = some 42 := zt_4 46 302 42 rfl rfl
theorem zy_303 : code.data.toList[303]? = some 21 := zt_4 47 303 21 rfl rfl
theorem zy_304 : code.data.toList[304]? = some 4 := zt_4 48 304 4 rfl rfl
theorem zy_305 : code.data.toList[305]? = some 7 := zt_4 49 305 7 rfl rfl
theorem zy_306 : code.data.toList[306]? = some 96 := zt_4 50 306 96 rfl rfl
theorem zy_307 : code.data.toList[307]? = some 46 := zt_4 51 307 46 rfl rfl
theorem zy_308 : code.data.toList[308]? = some 42 := zt_4 52 308 42 rfl rfl
theorem zy_309 : code.data.toList[309]? = some 21 := zt_4 53 309 21 rfl rfl
theorem zy_310 : code.data.toList[310]? = some 4 := zt_4 54 310 4 rfl rfl
theorem zy_311 : code.data.toList[311]? = some 8 := zt_4 55 311 8 rfl rfl
theorem zy_312 : code.data.toList[312]? = some 96 := zt_4 56 312 96 rfl rfl
theorem zy_313 : code.data.toList[313]? = some 46 := zt_4 57 313 46 rfl rfl
theorem zy_314 : code.data.toList[314]? = some 182 := zt_4 58 314 182 rfl rfl
theorem zy_315 : code.data.toList[315]? = some 0 := zt_4 59 315 0 rfl rfl
theorem zy_316 : code.data.toList[316]? = some 23 := zt_4 60 316 23 rfl rfl
theorem zy_317 : code.data.toList[317]? = some 87 := zt_4 61 317 87 rfl rfl
theorem zy_321 : code.data.toList[321]? = some 43 := zt_5 1 321 43 rfl rfl
theorem zy_322 : code.data.toList[322]? = some 42 := zt_5 2 322 42 rfl rfl
theorem zy_323 : code.data.toList[323]? = some 21 := zt_5 3 323 21 rfl rfl
theorem zy_324 : code.data.toList[324]? = some 4 := zt_5 4 324 4 rfl rfl
theorem zy_325 : code.data.toList[325]? = some 4 := zt_5 5 325 4 rfl rfl
theorem zy_326 : code.data.toList[326]? = some 96 := zt_5 6 326 96 rfl rfl
theorem zy_327 : code.data.toList[327]? = some 46 := zt_5 7 327 46 rfl rfl
theorem zy_328 : code.data.toList[328]? = some 182 := zt_5 8 328 182 rfl rfl
theorem zy_329 : code.data.toList[329]? = some 0 := zt_5 9 329 0 rfl rfl
theorem zy_330 : code.data.toList[330]? = some 24 := zt_5 10 330 24 rfl rfl
theorem zy_331 : code.data.toList[331]? = some 87 := zt_5 11 331 87 rfl rfl
theorem zy_332 : code.data.toList[332]? = some 44 := zt_5 12 332 44 rfl rfl
theorem zy_333 : code.data.toList[333]? = some 42 := zt_5 13 333 42 rfl rfl
theorem zy_334 : code.data.toList[334]? = some 21 := zt_5 14 334 21 rfl rfl
theorem zy_335 : code.data.toList[335]? = some 4 := zt_5 15 335 4 rfl rfl
theorem zy_336 : code.data.toList[336]? = some 4 := zt_5 16 336 4 rfl rfl
theorem zy_337 : code.data.toList[337]? = some 96 := zt_5 17 337 96 rfl rfl
theorem zy_338 : code.data.toList[338]? = some 46 := zt_5 18 338 46 rfl rfl
theorem zy_339 : code.data.toList[339]? = some 182 := zt_5 19 339 182 rfl rfl
theorem zy_340 : code.data.toList[340]? = some 0 := zt_5 20 340 0 rfl rfl
theorem zy_341 : code.data.toList[341]? = some 28 := zt_5 21 341 28 rfl rfl
theorem zy_342 : code.data.toList[342]? = some 87 := zt_5 22 342 87 rfl rfl
theorem zy_346 : code.data.toList[346]? = some 43 := zt_5 26 346 43 rfl rfl
theorem zy_347 : code.data.toList[347]? = some 42 := zt_5 27 347 42 rfl rfl
theorem zy_348 : code.data.toList[348]? = some 21 := zt_5 28 348 21 rfl rfl
theorem zy_349 : code.data.toList[349]? = some 4 := zt_5 29 349 4 rfl rfl
theorem zy_350 : code.data.toList[350]? = some 4 := zt_5 30 350 4 rfl rfl
theorem zy_351 : code.data.toList[351]? = some 96 := zt_5 31 351 96 rfl rfl
theorem zy_352 : code.data.toList[352]? = some 46 := zt_5 32 352 46 rfl rfl
theorem zy_353 : code.data.toList[353]? = some 182 := zt_5 33 353 182 rfl rfl
theorem zy_354 : code.data.toList[354]? = some 0 := zt_5 34 354 0 rfl rfl
theorem zy_355 : code.data.toList[355]? = some 29 := zt_5 35 355 29 rfl rfl
theorem zy_356 : code.data.toList[356]? = some 87 := zt_5 36 356 87 rfl rfl
theorem zy_357 : code.data.toList[357]? = some 44 := zt_5 37 357 44 rfl rfl
theorem zy_358 : code.data.toList[358]? = some 42 := zt_5 38 358 42 rfl rfl
theorem zy_359 : code.data.toList[359]? = some 21 := zt_5 39 359 21 rfl rfl
theorem zy_360 : code.data.toList[360]? = some 4 := zt_5 40 360 4 rfl rfl
theorem zy_361 : code.data.toList[361]? = some 4 := zt_5 41 361 4 rfl rfl
theorem zy_362 : code.data.toList[362]? = some 96 := zt_5 42 362 96 rfl rfl
theorem zy_363 : code.data.toList[363]? = some 46 := zt_5 43 363 46 rfl rfl
theorem zy_364 : code.data.toList[364]? = some 182 := zt_5 44 364 182 rfl rfl
theorem zy_365 : code.data.toList[365]? = some 0 := zt_5 45 365 0 rfl rfl
theorem zy_366 : code.data.toList[366]? = some 33 := zt_5 46 366 33 rfl rfl
theorem zy_367 : code.data.toList[367]? = some 87 := zt_5 47 367 87 rfl rfl
theorem zy_371 : code.data.toList[371]? = some 43 := zt_5 51 371 43 rfl rfl
theorem zy_372 : code.data.toList[372]? = some 42 := zt_5 52 372 42 rfl rfl
theorem zy_373 : code.data.toList[373]? = some 21 := zt_5 53 373 21 rfl rfl
theorem zy_374 : code.data.toList[374]? = some 4 := zt_5 54 374 4 rfl rfl
theorem zy_375 : code.data.toList[375]? = some 4 := zt_5 55 375 4 rfl rfl
theorem zy_376 : code.data.toList[376]? = some 96 := zt_5 56 376 96 rfl rfl
theorem zy_377 : code.data.toList[377]? = some 46 := zt_5 57 377 46 rfl rfl
theorem zy_378 : code.data.toList[378]? = some 182 := zt_5 58 378 182 rfl rfl
theorem zy_379 : code.data.toList[379]? = some 0 := zt_5 59 379 0 rfl rfl
theorem zy_380 : code.data.toList[380]? = some 34 := zt_5 60 380 34 rfl rfl
theorem zy_381 : code.data.toList[381]? = some 87 := zt_5 61 381 87 rfl rfl
theorem zy_382 : code.data.toList[382]? = some 44 := zt_5 62 382 44 rfl rfl
theorem zy_383 : code.data.toList[383]? = some 42 := zt_5 63 383 42 rfl rfl
theorem zy_384 : code.data.toList[384]? = some 21 := zt_6 0 384 21 rfl rfl
theorem zy_385 : code.data.toList[385]? = some 4 := zt_6 1 385 4 rfl rfl
theorem zy_386 : code.data.toList[386]? = some 4 := zt_6 2 386 4 rfl rfl
theorem zy_387 : code.data.toList[387]? = some 96 := zt_6 3 387 96 rfl rfl
theorem zy_388 : code.data.toList[388]? = some 46 := zt_6 4 388 46 rfl rfl
theorem zy_389 : code.data.toList[389]? = some 182 := zt_6 5 389 182 rfl rfl
theorem zy_390 : code.data.toList[390]? = some 0 := zt_6 6 390 0 rfl rfl
theorem zy_391 : code.data.toList[391]? = some 37 := zt_6 7 391 37 rfl rfl
theorem zy_392 : code.data.toList[392]? = some 87 := zt_6 8 392 87 rfl rfl
theorem zy_396 : code.data.toList[396]? = some 43 := zt_6 12 396 43 rfl rfl
theorem zy_397 : code.data.toList[397]? = some 42 := zt_6 13 397 42 rfl rfl
theorem zy_398 : code.data.toList[398]? = some 21 := zt_6 14 398 21 rfl rfl
theorem zy_399 : code.data.toList[399]? = some 4 := zt_6 15 399 4 rfl rfl
theorem zy_400 : code.data.toList[400]? = some 4 := zt_6 16 400 4 rfl rfl
theorem zy_401 : code.data.toList[401]? = some 96 := zt_6 17 401 96 rfl rfl
theorem zy_402 : code.data.toList[402]? = some 46 := zt_6 18 402 46 rfl rfl
theorem zy_403 : code.data.toList[403]? = some 182 := zt_6 19 403 182 rfl rfl
theorem zy_404 : code.data.toList[404]? = some 0 := zt_6 20 404 0 rfl rfl
theorem zy_405 : code.data.toList[405]? = some 38 := zt_6 21 405 38 rfl rfl
theorem zy_406 : code.data.toList[406]? = some 87 := zt_6 22 406 87 rfl rfl
theorem zy_407 : code.data.toList[407]? = some 44 := zt_6 23 407 44 rfl rfl
theorem zy_408 : code.data.toList[408]? = some 42 := zt_6 24 408 42 rfl rfl
theorem zy_409 : code.data.toList[409]? = some 21 := zt_6 25 409 21 rfl rfl
theorem zy_410 : code.data.toList[410]? = some 4 := zt_6 26 410 4 rfl rfl
theorem zy_411 : code.data.toList[411]? = some 4 := zt_6 27 411 4 rfl rfl
theorem zy_412 : code.data.toList[412]? = some 96 := zt_6 28 412 96 rfl rfl
theorem zy_413 : code.data.toList[413]? = some 46 := zt_6 29 413 46 rfl rfl
theorem zy_414 : code.data.toList[414]? = some 182 := zt_6 30 414 182 rfl rfl
theorem zy_415 : code.data.toList[415]? = some 0 := zt_6 31 415 0 rfl rfl
theorem zy_416 : code.data.toList[416]? = some 41 := zt_6 32 416 41 rfl rfl
theorem zy_417 : code.data.toList[417]? = some 87 := zt_6 33 417 87 rfl rfl
theorem zy_421 : code.data.toList[421]? = some 43 := zt_6 37 421 43 rfl rfl
theorem zy_422 : code.data.toList[422]? = some 42 := zt_6 38 422 42 rfl rfl
theorem zy_423 : code.data.toList[423]? = some 21 := zt_6 39 423 21 rfl rfl
theorem zy_424 : code.data.toList[424]? = some 4 := zt_6 40 424 4 rfl rfl
theorem zy_425 : code.data.toList[425]? = some 4 := zt_6 41 425 4 rfl rfl
theorem zy_426 : code.data.toList[426]? = some 96 := zt_6 42 426 96 rfl rfl
theorem zy_427 : code.data.toList[427]? = some 46 := zt_6 43 427 46 rfl rfl
theorem zy_428 : code.data.toList[428]? = some 42 := zt_6 44 428 42 rfl rfl
theorem zy_429 : code.data.toList[429]? = some 21 := zt_6 45 429 21 rfl rfl
theorem zy_430 : code.data.toList[430]? = some 4 := zt_6 46 430 4 rfl rfl
theorem zy_431 : code.data.toList[431]? = some 5 := zt_6 47 431 5 rfl rfl
theorem zy_432 : code.data.toList[432]? = some 96 := zt_6 48 432 96 rfl rfl
theorem zy_433 : code.data.toList[433]? = some 46 := zt_6 49 433 46 rfl rfl
theorem zy_434 : code.data.toList[434]? = some 45 := zt_6 50 434 45 rfl rfl
theorem zy_440 : code.data.toList[440]? = some 44 := zt_6 56 440 44 rfl rfl
theorem zy_441 : code.data.toList[441]? = some 42 := zt_6 57 441 42 rfl rfl
theorem zy_442 : code.data.toList[442]? = some 21 := zt_6 58 442 21 rfl rfl
theorem zy_443 : code.data.toList[443]? = some 4 := zt_6 59 443 4 rfl rfl
theorem zy_444 : code.data.toList[444]? = some 4 := zt_6 60 444 4 rfl rfl
theorem zy_445 : code.data.toList[445]? = some 96 := zt_6 61 445 96 rfl rfl
theorem zy_446 : code.data.toList[446]? = some 46 := zt_6 62 446 46 rfl rfl
theorem zy_447 : code.data.toList[447]? = some 42 := zt_6 63 447 42 rfl rfl
theorem zy_448 : code.data.toList[448]? = some 21 := zt_7 0 448 21 rfl rfl
theorem zy_449 : code.data.toList[449]? = some 4 := zt_7 1 449 4 rfl rfl
theorem zy_450 : code.data.toList[450]? = some 5 := zt_7 2 450 5 rfl rfl
theorem zy_451 : code.data.toList[451]? = some 96 := zt_7 3 451 96 rfl rfl
theorem zy_452 : code.data.toList[452]? = some 46 := zt_7 4 452 46 rfl rfl
theorem zy_453 : code.data.toList[453]? = some 182 := zt_7 5 453 182 rfl rfl
theorem zy_454 : code.data.toList[454]? = some 0 := zt_7 6 454 0 rfl rfl
theorem zy_455 : code.data.toList[455]? = some 47 := zt_7 7 455 47 rfl rfl
theorem zy_461 : code.data.toList[461]? = some 43 := zt_7 13 461 43 rfl rfl
theorem zy_462 : code.data.toList[462]? = some 42 := zt_7 14 462 42 rfl rfl
theorem zy_463 : code.data.toList[463]? = some 21 := zt_7 15 463 21 rfl rfl
theorem zy_464 : code.data.toList[464]? = some 4 := zt_7 16 464 4 rfl rfl
theorem zy_465 : code.data.toList[465]? = some 4 := zt_7 17 465 4 rfl rfl
theorem zy_466 : code.data.toList[466]? = some 96 := zt_7 18 466 96 rfl rfl
theorem zy_467 : code.data.toList[467]? = some 46 := zt_7 19 467 46 rfl rfl
theorem zy_468 : code.data.toList[468]? = some 42 := zt_7 20 468 42 rfl rfl
theorem zy_469 : code.data.toList[469]? = some 21 := zt_7 21 469 21 rfl rfl
theorem zy_470 : code.data.toList[470]? = some 4 := zt_7 22 470 4 rfl rfl
theorem zy_471 : code.data.toList[471]? = some 5 := zt_7 23 471 5 rfl rfl
theorem zy_472 : code.data.toList[472]? = some 96 := zt_7 24 472 96 rfl rfl
theorem zy_473 : code.data.toList[473]? = some 46 := zt_7 25 473 46 rfl rfl
theorem zy_474 : code.data.toList[474]? = some 182 := zt_7 26 474 182 rfl rfl
theorem zy_475 : code.data.toList[475]? = some 0 := zt_7 27 475 0 rfl rfl
theorem zy_476 : code.data.toList[476]? = some 48 := zt_7 28 476 48 rfl rfl
theorem zy_477 : code.data.toList[477]? = some 87 := zt_7 29 477 87 rfl rfl
theorem zy_478 : code.data.toList[478]? = some 44 := zt_7 30 478 44 rfl rfl
theorem zy_479 : code.data.toList[479]? = some 42 := zt_7 31 479 42 rfl rfl
theorem zy_480 : code.data.toList[480]? = some 21 := zt_7 32 480 21 rfl rfl
theorem zy_481 : code.data.toList[481]? = some 4 := zt_7 33 481 4 rfl rfl
theorem zy_482 : code.data.toList[482]? = some 4 := zt_7 34 482 4 rfl rfl
theorem zy_483 : code.data.toList[483]? = some 96 := zt_7 35 483 96 rfl rfl
theorem zy_484 : code.data.toList[484]? = some 46 := zt_7 36 484 46 rfl rfl
theorem zy_485 : code.data.toList[485]? = some 42 := zt_7 37 485 42 rfl rfl
theorem zy_486 : code.data.toList[486]? = some 21 := zt_7 38 486 21 rfl rfl
theorem zy_487 : code.data.toList[487]? = some 4 := zt_7 39 487 4 rfl rfl
theorem zy_488 : code.data.toList[488]? = some 5 := zt_7 40 488 5 rfl rfl
theorem zy_489 : code.data.toList[489]? = some 96 := zt_7 41 489 96 rfl rfl
theorem zy_490 : code.data.toList[490]? = some 46 := zt_7 42 490 46 rfl rfl
theorem zy_491 : code.data.toList[491]? = some 182 := zt_7 43 491 182 rfl rfl
theorem zy_492 : code.data.toList[492]? = some 0 := zt_7 44 492 0 rfl rfl
theorem zy_493 : code.data.toList[493]? = some 51 := zt_7 45 493 51 rfl rfl
theorem zy_494 : code.data.toList[494]? = some 87 := zt_7 46 494 87 rfl rfl
theorem zy_498 : code.data.toList[498]? = some 43 := zt_7 50 498 43 rfl rfl
theorem zy_499 : code.data.toList[499]? = some 42 := zt_7 51 499 42 rfl rfl
theorem zy_500 : code.data.toList[500]? = some 21 := zt_7 52 500 21 rfl rfl
theorem zy_501 : code.data.toList[501]? = some 4 := zt_7 53 501 4 rfl rfl
theorem zy_502 : code.data.toList[502]? = some 4 := zt_7 54 502 4 rfl rfl
theorem zy_503 : code.data.toList[503]? = some 96 := zt_7 55 503 96 rfl rfl
theorem zy_504 : code.data.toList[504]? = some 46 := zt_7 56 504 46 rfl rfl
theorem zy_505 : code.data.toList[505]? = some 182 := zt_7 57 505 182 rfl rfl
theorem zy_506 : code.data.toList[506]? = some 0 := zt_7 58 506 0 rfl rfl
theorem zy_507 : code.data.toList[507]? = some 52 := zt_7 59 507 52 rfl rfl
theorem zy_508 : code.data.toList[508]? = some 44 := zt_7 60 508 44 rfl rfl
theorem zy_509 : code.data.toList[509]? = some 42 := zt_7 61 509 42 rfl rfl
theorem zy_510 : code.data.toList[510]? = some 21 := zt_7 62 510 21 rfl rfl
theorem zy_511 : code.data.toList[511]? = some 4 := zt_7 63 511 4 rfl rfl
theorem zy_512 : code.data.toList[512]? = some 4 := zt_8 0 512 4 rfl rfl
theorem zy_513 : code.data.toList[513]? = some 96 := zt_8 1 513 96 rfl rfl
theorem zy_514 : code.data.toList[514]? = some 46 := zt_8 2 514 46 rfl rfl
theorem zy_515 : code.data.toList[515]? = some 182 := zt_8 3 515 182 rfl rfl
theorem zy_516 : code.data.toList[516]? = some 0 := zt_8 4 516 0 rfl rfl
theorem zy_517 : code.data.toList[517]? = some 55 := zt_8 5 517 55 rfl rfl
theorem zy_523 : code.data.toList[523]? = some 43 := zt_8 11 523 43 rfl rfl
theorem zy_524 : code.data.toList[524]? = some 42 := zt_8 12 524 42 rfl rfl
theorem zy_525 : code.data.toList[525]? = some 21 := zt_8 13 525 21 rfl rfl
theorem zy_526 : code.data.toList[526]? = some 4 := zt_8 14 526 4 rfl rfl
theorem zy_527 : code.data.toList[527]? = some 4 := zt_8 15 527 4 rfl rfl
theorem zy_528 : code.data.toList[528]? = some 96 := zt_8 16 528 96 rfl rfl
theorem zy_529 : code.data.toList[529]? = some 46 := zt_8 17 529 46 rfl rfl
theorem zy_530 : code.data.toList[530]? = some 42 := zt_8 18 530 42 rfl rfl
theorem zy_531 : code.data.toList[531]? = some 21 := zt_8 19 531 21 rfl rfl
theorem zy_532 : code.data.toList[532]? = some 4 := zt_8 20 532 4 rfl rfl
theorem zy_533 : code.data.toList[533]? = some 5 := zt_8 21 533 5 rfl rfl
theorem zy_534 : code.data.toList[534]? = some 96 := zt_8 22 534 96 rfl rfl
theorem zy_535 : code.data.toList[535]? = some 46 := zt_8 23 535 46 rfl rfl
theorem zy_536 : code.data.toList[536]? = some 182 := zt_8 24 536 182 rfl rfl
theorem zy_537 : code.data.toList[537]? = some 0 := zt_8 25 537 0 rfl rfl
theorem zy_538 : code.data.toList[538]? = some 56 := zt_8 26 538 56 rfl rfl
theorem zy_539 : code.data.toList[539]? = some 87 := zt_8 27 539 87 rfl rfl
theorem zy_540 : code.data.toList[540]? = some 44 := zt_8 28 540 44 rfl rfl
theorem zy_541 : code.data.toList[541]? = some 42 := zt_8 29 541 42 rfl rfl
theorem zy_542 : code.data.toList[542]? = some 21 := zt_8 30 542 21 rfl rfl
theorem zy_543 : code.data.toList[543]? = some 4 := zt_8 31 543 4 rfl rfl
theorem zy_544 : code.data.toList[544]? = some 4 := zt_8 32 544 4 rfl rfl
theorem zy_545 : code.data.toList[545]? = some 96 := zt_8 33 545 96 rfl rfl
theorem zy_546 : code.data.toList[546]? = some 46 := zt_8 34 546 46 rfl rfl
theorem zy_547 : code.data.toList[547]? = some 42 := zt_8 35 547 42 rfl rfl
theorem zy_548 : code.data.toList[548]? = some 21 := zt_8 36 548 21 rfl rfl
theorem zy_549 : code.data.toList[549]? = some 4 := zt_8 37 549 4 rfl rfl
theorem zy_550 : code.data.toList[550]? = some 5 := zt_8 38 550 5 rfl rfl
theorem zy_551 : code.data.toList[551]? = some 96 := zt_8 39 551 96 rfl rfl
theorem zy_552 : code.data.toList[552]? = some 46 := zt_8 40 552 46 rfl rfl
theorem zy_553 : code.data.toList[553]? = some 182 := zt_8 41 553 182 rfl rfl
theorem zy_554 : code.data.toList[554]? = some 0 := zt_8 42 554 0 rfl rfl
theorem zy_555 : code.data.toList[555]? = some 59 := zt_8 43 555 59 rfl rfl
theorem zy_556 : code.data.toList[556]? = some 87 := zt_8 44 556 87 rfl rfl
theorem zy_560 : code.data.toList[560]? = some 43 := zt_8 48 560 43 rfl rfl
theorem zy_561 : code.data.toList[561]? = some 42 := zt_8 49 561 42 rfl rfl
theorem zy_562 : code.data.toList[562]? = some 21 := zt_8 50 562 21 rfl rfl
theorem zy_563 : code.data.toList[563]? = some 4 := zt_8 51 563 4 rfl rfl
theorem zy_564 : code.data.toList[564]? = some 4 := zt_8 52 564 4 rfl rfl
theorem zy_565 : code.data.toList[565]? = some 96 := zt_8 53 565 96 rfl rfl
theorem zy_566 : code.data.toList[566]? = some 46 := zt_8 54 566 46 rfl rfl
theorem zy_567 : code.data.toList[567]? = some 42 := zt_8 55 567 42 rfl rfl
theorem zy_568 : code.data.toList[568]? = some 21 := zt_8 56 568 21 rfl rfl
theorem zy_569 : code.data.toList[569]? = some 4 := zt_8 57 569 4 rfl rfl
theorem zy_570 : code.data.toList[570]? = some 5 := zt_8 58 570 5 rfl rfl
theorem zy_571 : code.data.toList[571]? = some 96 := zt_8 59 571 96 rfl rfl
theorem zy_572 : code.data.toList[572]? = some 46 := zt_8 60 572 46 rfl rfl
theorem zy_573 : code.data.toList[573]? = some 42 := zt_8 61 573 42 rfl rfl
theorem zy_574 : code.data.toList[574]? = some 21 := zt_8 62 574 21 rfl rfl
theorem zy_575 : code.data.toList[575]? = some 4 := zt_8 63 575 4 rfl rfl
theorem zy_576 : code.data.toList[576]? = some 6 := zt_9 0 576 6 rfl rfl
theorem zy_577 : code.data.toList[577]? = some 96 := zt_9 1 577 96 rfl rfl
theorem zy_578 : code.data.toList[578]? = some 46 := zt_9 2 578 46 rfl rfl
theorem zy_579 : code.data.toList[579]? = some 182 := zt_9 3 579 182 rfl rfl
theorem zy_580 : code.data.toList[580]? = some 0 := zt_9 4 580 0 rfl rfl
theorem zy_581 : code.data.toList[581]? = some 60 := zt_9 5 581 60 rfl rfl
theorem zy_582 : code.data.toList[582]? = some 87 := zt_9 6 582 87 rfl rfl
theorem zy_583 : code.data.toList[583]? = some 44 := zt_9 7 583 44 rfl rfl
theorem zy_584 : code.data.toList[584]? = some 42 := zt_9 8 584 42 rfl rfl
theorem zy_585 : code.data.toList[585]? = some 21 := zt_9 9 585 21 rfl rfl
theorem zy_586 : code.data.toList[586]? = some 4 := zt_9 10 586 4 rfl rfl
theorem zy_587 : code.data.toList[587]? = some 4 := zt_9 11 587 4 rfl rfl
theorem zy_588 : code.data.toList[588]? = some 96 := zt_9 12 588 96 rfl rfl
theorem zy_589 : code.data.toList[589]? = some 46 := zt_9 13 589 46 rfl rfl
theorem zy_590 : code.data.toList[590]? = some 42 := zt_9 14 590 42 rfl rfl
theorem zy_591 : code.data.toList[591]? = some 21 := zt_9 15 591 21 rfl rfl
theorem zy_592 : code.data.toList[592]? = some 4 := zt_9 16 592 4 rfl rfl
theorem zy_593 : code.data.toList[593]? = some 5 := zt_9 17 593 5 rfl rfl
theorem zy_594 : code.data.toList[594]? = some 96 := zt_9 18 594 96 rfl rfl
theorem zy_595 : code.data.toList[595]? = some 46 := zt_9 19 595 46 rfl rfl
theorem zy_596 : code.data.toList[596]? = some 42 := zt_9 20 596 42 rfl rfl
theorem zy_597 : code.data.toList[597]? = some 21 := zt_9 21 597 21 rfl rfl
theorem zy_598 : code.data.toList[598]? = some 4 := zt_9 22 598 4 rfl rfl
theorem zy_599 : code.data.toList[599]? = some 6 := zt_9 23 599 6 rfl rfl
theorem zy_600 : code.data.toList[600]? = some 96 := zt_9 24 600 96 rfl rfl
theorem zy_601 : code.data.toList[601]? = some 46 := zt_9 25 601 46 rfl rfl
theorem zy_602 : code.data.toList[602]? = some 182 := zt_9 26 602 182 rfl rfl
theorem zy_603 : code.data.toList[603]? = some 0 := zt_9 27 603 0 rfl rfl
theorem zy_604 : code.data.toList[604]? = some 64 := zt_9 28 604 64 rfl rfl
theorem zy_605 : code.data.toList[605]? = some 87 := zt_9 29 605 87 rfl rfl
theorem zy_609 : code.data.toList[609]? = some 43 := zt_9 33 609 43 rfl rfl
theorem zy_610 : code.data.toList[610]? = some 42 := zt_9 34 610 42 rfl rfl
theorem zy_611 : code.data.toList[611]? = some 21 := zt_9 35 611 21 rfl rfl
theorem zy_612 : code.data.toList[612]? = some 4 := zt_9 36 612 4 rfl rfl
theorem zy_613 : code.data.toList[613]? = some 4 := zt_9 37 613 4 rfl rfl
theorem zy_614 : code.data.toList[614]? = some 96 := zt_9 38 614 96 rfl rfl
theorem zy_615 : code.data.toList[615]? = some 46 := zt_9 39 615 46 rfl rfl
theorem zy_616 : code.data.toList[616]? = some 42 := zt_9 40 616 42 rfl rfl
theorem zy_617 : code.data.toList[617]? = some 21 := zt_9 41 617 21 rfl rfl
theorem zy_618 : code.data.toList[618]? = some 4 := zt_9 42 618 4 rfl rfl
theorem zy_619 : code.data.toList[619]? = some 5 := zt_9 43 619 5 rfl rfl
theorem zy_620 : code.data.toList[620]? = some 96 := zt_9 44 620 96 rfl rfl
theorem zy_621 : code.data.toList[621]? = some 46 := zt_9 45 621 46 rfl rfl
theorem zy_622 : code.data.toList[622]? = some 182 := zt_9 46 622 182 rfl rfl
theorem zy_623 : code.data.toList[623]? = some 0 := zt_9 47 623 0 rfl rfl
theorem zy_624 : code.data.toList[624]? = some 65 := zt_9 48 624 65 rfl rfl
theorem zy_625 : code.data.toList[625]? = some 87 := zt_9 49 625 87 rfl rfl
theorem zy_626 : code.data.toList[626]? = some 44 := zt_9 50 626 44 rfl rfl
theorem zy_627 : code.data.toList[627]? = some 42 := zt_9 51 627 42 rfl rfl
theorem zy_628 : code.data.toList[628]? = some 21 := zt_9 52 628 21 rfl rfl
theorem zy_629 : code.data.toList[629]? = some 4 := zt_9 53 629 4 rfl rfl
theorem zy_630 : code.data.toList[630]? = some 4 := zt_9 54 630 4 rfl rfl
theorem zy_631 : code.data.toList[631]? = some 96 := zt_9 55 631 96 rfl rfl
theorem zy_632 : code.data.toList[632]? = some 46 := zt_9 56 632 46 rfl rfl
theorem zy_633 : code.data.toList[633]? = some 42 := zt_9 57 633 42 rfl rfl
theorem zy_634 : code.data.toList[634]? = some 21 := zt_9 58 634 21 rfl rfl
theorem zy_635 : code.data.toList[635]? = some 4 := zt_9 59 635 4 rfl rfl
theorem zy_636 : code.data.toList[636]? = some 5 := zt_9 60 636 5 rfl rfl
theorem zy_637 : code.data.toList[637]? = some 96 := zt_9 61 637 96 rfl rfl
theorem zy_638 : code.data.toList[638]? = some 46 := zt_9 62 638 46 rfl rfl
theorem zy_639 : code.data.toList[639]? = some 182 := zt_9 63 639 182 rfl rfl
theorem zy_640 : code.data.toList[640]? = some 0 := zt_10 0 640 0 rfl rfl
theorem zy_641 : code.data.toList[641]? = some 68 := zt_10 1 641 68 rfl rfl
theorem zy_642 : code.data.toList[642]? = some 87 := zt_10 2 642 87 rfl rfl
theorem zy_646 : code.data.toList[646]? = some 43 := zt_10 6 646 43 rfl rfl
theorem zy_647 : code.data.toList[647]? = some 42 := zt_10 7 647 42 rfl rfl
theorem zy_648 : code.data.toList[648]? = some 21 := zt_10 8 648 21 rfl rfl
theorem zy_649 : code.data.toList[649]? = some 4 := zt_10 9 649 4 rfl rfl
theorem zy_650 : code.data.toList[650]? = some 4 := zt_10 10 650 4 rfl rfl
theorem zy_651 : code.data.toList[651]? = some 96 := zt_10 11 651 96 rfl rfl
theorem zy_652 : code.data.toList[652]? = some 46 := zt_10 12 652 46 rfl rfl
theorem zy_653 : code.data.toList[653]? = some 42 := zt_10 13 653 42 rfl rfl
theorem zy_654 : code.data.toList[654]? = some 21 := zt_10 14 654 21 rfl rfl
theorem zy_655 : code.data.toList[655]? = some 4 := zt_10 15 655 4 rfl rfl
theorem zy_656 : code.data.toList[656]? = some 5 := zt_10 16 656 5 rfl rfl
theorem zy_657 : code.data.toList[657]? = some 96 := zt_10 17 657 96 rfl rfl
theorem zy_658 : code.data.toList[658]? = some 46 := zt_10 18 658 46 rfl rfl
theorem zy_659 : code.data.toList[659]? = some 182 := zt_10 19 659 182 rfl rfl
theorem zy_660 : code.data.toList[660]? = some 0 := zt_10 20 660 0 rfl rfl
theorem zy_661 : code.data.toList[661]? = some 69 := zt_10 21 661 69 rfl rfl
theorem zy_662 : code.data.toList[662]? = some 87 := zt_10 22 662 87 rfl rfl
theorem zy_663 : code.data.toList[663]? = some 44 := zt_10 23 663 44 rfl rfl
theorem zy_664 : code.data.toList[664]? = some 42 := zt_10 24 664 42 rfl rfl
theorem zy_665 : code.data.toList[665]? = some 21 := zt_10 25 665 21 rfl rfl
theorem zy_666 : code.data.toList[666]? = some 4 := zt_10 26 666 4 rfl rfl
theorem zy_667 : code.data.toList[667]? = some 4 := zt_10 27 667 4 rfl rfl
theorem zy_668 : code.data.toList[668]? = some 96 := zt_10 28 668 96 rfl rfl
theorem zy_669 : code.data.toList[669]? = some 46 := zt_10 29 669 46 rfl rfl
theorem zy_670 : code.data.toList[670]? = some 42 := zt_10 30 670 42 rfl rfl
theorem zy_671 : code.data.toList[671]? = some 21 := zt_10 31 671 21 rfl rfl
theorem zy_672 : code.data.toList[672]? = some 4 := zt_10 32 672 4 rfl rfl
theorem zy_673 : code.data.toList[673]? = some 5 := zt_10 33 673 5 rfl rfl
theorem zy_674 : code.data.toList[674]? = some 96 := zt_10 34 674 96 rfl rfl
theorem zy_675 : code.data.toList[675]? = some 46 := zt_10 35 675 46 rfl rfl
theorem zy_676 : code.data.toList[676]? = some 182 := zt_10 36 676 182 rfl rfl
theorem zy_677 : code.data.toList[677]? = some 0 := zt_10 37 677 0 rfl rfl
theorem zy_678 : code.data.toList[678]? = some 72 := zt_10 38 678 72 rfl rfl
theorem zy_679 : code.data.toList[679]? = some 87 := zt_10 39 679 87 rfl rfl
theorem zy_683 : code.data.toList[683]? = some 43 := zt_10 43 683 43 rfl rfl
theorem zy_684 : code.data.toList[684]? = some 42 := zt_10 44 684 42 rfl rfl
theorem zy_685 : code.data.toList[685]? = some 21 := zt_10 45 685 21 rfl rfl
theorem zy_686 : code.data.toList[686]? = some 4 := zt_10 46 686 4 rfl rfl
theorem zy_687 : code.data.toList[687]? = some 4 := zt_10 47 687 4 rfl rfl
theorem zy_688 : code.data.toList[688]? = some 96 := zt_10 48 688 96 rfl rfl
theorem zy_689 : code.data.toList[689]? = some 46 := zt_10 49 689 46 rfl rfl
theorem zy_690 : code.data.toList[690]? = some 182 := zt_10 50 690 182 rfl rfl
theorem zy_691 : code.data.toList[691]? = some 0 := zt_10 51 691 0 rfl rfl
theorem zy_692 : code.data.toList[692]? = some 73 := zt_10 52 692 73 rfl rfl
theorem zy_693 : code.data.toList[693]? = some 87 := zt_10 53 693 87 rfl rfl
theorem zy_694 : code.data.toList[694]? = some 44 := zt_10 54 694 44 rfl rfl
theorem zy_695 : code.data.toList[695]? = some 42 := zt_10 55 695 42 rfl rfl
theorem zy_696 : code.data.toList[696]? = some 21 := zt_10 56 696 21 rfl rfl
theorem zy_697 : code.data.toList[697]? = some 4 := zt_10 57 697 4 rfl rfl
theorem zy_698 : code.data.toList[698]? = some 4 := zt_10 58 698 4 rfl rfl
theorem zy_699 : code.data.toList[699]? = some 96 := zt_10 59 699 96 rfl rfl
theorem zy_700 : code.data.toList[700]? = some 46 := zt_10 60 700 46 rfl rfl
theorem zy_701 : code.data.toList[701]? = some 182 := zt_10 61 701 182 rfl rfl
theorem zy_702 : code.data.toList[702]? = some 0 := zt_10 62 702 0 rfl rfl
theorem zy_703 : code.data.toList[703]? = some 76 := zt_10 63 703 76 rfl rfl
theorem zy_704 : code.data.toList[704]? = some 87 := zt_11 0 704 87 rfl rfl
theorem zy_708 : code.data.toList[708]? = some 43 := zt_11 4 708 43 rfl rfl
theorem zy_709 : code.data.toList[709]? = some 42 := zt_11 5 709 42 rfl rfl
theorem zy_710 : code.data.toList[710]? = some 21 := zt_11 6 710 21 rfl rfl
theorem zy_711 : code.data.toList[711]? = some 4 := zt_11 7 711 4 rfl rfl
theorem zy_712 : code.data.toList[712]? = some 4 := zt_11 8 712 4 rfl rfl
theorem zy_713 : code.data.toList[713]? = some 96 := zt_11 9 713 96 rfl rfl
theorem zy_714 : code.data.toList[714]? = some 46 := zt_11 10 714 46 rfl rfl
theorem zy_715 : code.data.toList[715]? = some 182 := zt_11 11 715 182 rfl rfl
theorem zy_716 : code.data.toList[716]? = some 0 := zt_11 12 716 0 rfl rfl
theorem zy_717 : code.data.toList[717]? = some 77 := zt_11 13 717 77 rfl rfl
theorem zy_718 : code.data.toList[718]? = some 87 := zt_11 14 718 87 rfl rfl
theorem zy_719 : code.data.toList[719]? = some 44 := zt_11 15 719 44 rfl rfl
theorem zy_720 : code.data.toList[720]? = some 42 := zt_11 16 720 42 rfl rfl
theorem zy_721 : code.data.toList[721]? = some 21 := zt_11 17 721 21 rfl rfl
theorem zy_722 : code.data.toList[722]? = some 4 := zt_11 18 722 4 rfl rfl
theorem zy_723 : code.data.toList[723]? = some 4 := zt_11 19 723 4 rfl rfl
theorem zy_724 : code.data.toList[724]? = some 96 := zt_11 20 724 96 rfl rfl
theorem zy_725 : code.data.toList[725]? = some 46 := zt_11 21 725 46 rfl rfl
theorem zy_726 : code.data.toList[726]? = some 182 := zt_11 22 726 182 rfl rfl
theorem zy_727 : code.data.toList[727]? = some 0 := zt_11 23 727 0 rfl rfl
theorem zy_728 : code.data.toList[728]? = some 80 := zt_11 24 728 80 rfl rfl
theorem zy_729 : code.data.toList[729]? = some 87 := zt_11 25 729 87 rfl rfl
theorem zy_733 : code.data.toList[733]? = some 43 := zt_11 29 733 43 rfl rfl
theorem zy_734 : code.data.toList[734]? = some 42 := zt_11 30 734 42 rfl rfl
theorem zy_735 : code.data.toList[735]? = some 21 := zt_11 31 735 21 rfl rfl
theorem zy_736 : code.data.toList[736]? = some 4 := zt_11 32 736 4 rfl rfl
theorem zy_737 : code.data.toList[737]? = some 4 := zt_11 33 737 4 rfl rfl
theorem zy_738 : code.data.toList[738]? = some 96 := zt_11 34 738 96 rfl rfl
theorem zy_739 : code.data.toList[739]? = some 46 := zt_11 35 739 46 rfl rfl
theorem zy_740 : code.data.toList[740]? = some 182 := zt_11 36 740 182 rfl rfl
theorem zy_741 : code.data.toList[741]? = some 0 := zt_11 37 741 0 rfl rfl
theorem zy_742 : code.data.toList[742]? = some 81 := zt_11 38 742 81 rfl rfl
theorem zy_743 : code.data.toList[743]? = some 87 := zt_11 39 743 87 rfl rfl
theorem zy_744 : code.data.toList[744]? = some 44 := zt_11 40 744 44 rfl rfl
theorem zy_745 : code.data.toList[745]? = some 42 := zt_11 41 745 42 rfl rfl
theorem zy_746 : code.data.toList[746]? = some 21 := zt_11 42 746 21 rfl rfl
theorem zy_747 : code.data.toList[747]? = some 4 := zt_11 43 747 4 rfl rfl
theorem zy_748 : code.data.toList[748]? = some 4 := zt_11 44 748 4 rfl rfl
theorem zy_749 : code.data.toList[749]? = some 96 := zt_11 45 749 96 rfl rfl
theorem zy_750 : code.data.toList[750]? = some 46 := zt_11 46 750 46 rfl rfl
theorem zy_751 : code.data.toList[751]? = some 182 := zt_11 47 751 182 rfl rfl
theorem zy_752 : code.data.toList[752]? = some 0 := zt_11 48 752 0 rfl rfl
theorem zy_753 : code.data.toList[753]? = some 84 := zt_11 49 753 84 rfl rfl
theorem zy_754 : code.data.toList[754]? = some 87 := zt_11 50 754 87 rfl rfl
theorem zy_758 : code.data.toList[758]? = some 43 := zt_11 54 758 43 rfl rfl
theorem zy_759 : code.data.toList[759]? = some 42 := zt_11 55 759 42 rfl rfl
theorem zy_760 : code.data.toList[760]? = some 21 := zt_11 56 760 21 rfl rfl
theorem zy_761 : code.data.toList[761]? = some 4 := zt_11 57 761 4 rfl rfl
theorem zy_762 : code.data.toList[762]? = some 4 := zt_11 58 762 4 rfl rfl
theorem zy_763 : code.data.toList[763]? = some 96 := zt_11 59 763 96 rfl rfl
theorem zy_764 : code.data.toList[764]? = some 46 := zt_11 60 764 46 rfl rfl
theorem zy_765 : code.data.toList[765]? = some 182 := zt_11 61 765 182 rfl rfl
theorem zy_766 : code.data.toList[766]? = some 0 := zt_11 62 766 0 rfl rfl
theorem zy_767 : code.data.toList[767]? = some 85 := zt_11 63 767 85 rfl rfl
theorem zy_768 : code.data.toList[768]? = some 87 := zt_12 0 768 87 rfl rfl
theorem zy_769 : code.data.toList[769]? = some 44 := zt_12 1 769 44 rfl rfl
theorem zy_770 : code.data.toList[770]? = some 42 := zt_12 2 770 42 rfl rfl
theorem zy_771 : code.data.toList[771]? = some 21 := zt_12 3 771 21 rfl rfl
theorem zy_772 : code.data.toList[772]? = some 4 := zt_12 4 772 4 rfl rfl
theorem zy_773 : code.data.toList[773]? = some 4 := zt_12 5 773 4 rfl rfl
theorem zy_774 : code.data.toList[774]? = some 96 := zt_12 6 774 96 rfl rfl
theorem zy_775 : code.data.toList[775]? = some 46 := zt_12 7 775 46 rfl rfl
theorem zy_776 : code.data.toList[776]? = some 182 := zt_12 8 776 182 rfl rfl
theorem zy_777 : code.data.toList[777]? = some 0 := zt_12 9 777 0 rfl rfl
theorem zy_778 : code.data.toList[778]? = some 88 := zt_12 10 778 88 rfl rfl
theorem zy_779 : code.data.toList[779]? = some 87 := zt_12 11 779 87 rfl rfl
theorem zy_783 : code.data.toList[783]? = some 43 := zt_12 15 783 43 rfl rfl
theorem zy_784 : code.data.toList[784]? = some 182 := zt_12 16 784 182 rfl rfl
theorem zy_785 : code.data.toList[785]? = some 0 := zt_12 17 785 0 rfl rfl
theorem zy_786 : code.data.toList[786]? = some 89 := zt_12 18 786 89 rfl rfl
theorem zy_787 : code.data.toList[787]? = some 87 := zt_12 19 787 87 rfl rfl
theorem zy_788 : code.data.toList[788]? = some 44 := zt_12 20 788 44 rfl rfl
theorem zy_789 : code.data.toList[789]? = some 182 := zt_12 21 789 182 rfl rfl
theorem zy_790 : code.data.toList[790]? = some 0 := zt_12 22 790 0 rfl rfl
theorem zy_791 : code.data.toList[791]? = some 93 := zt_12 23 791 93 rfl rfl
theorem zy_792 : code.data.toList[792]? = some 87 := zt_12 24 792 87 rfl rfl
theorem zy_796 : code.data.toList[796]? = some 43 := zt_12 28 796 43 rfl rfl
theorem zy_797 : code.data.toList[797]? = some 42 := zt_12 29 797 42 rfl rfl
theorem zy_798 : code.data.toList[798]? = some 21 := zt_12 30 798 21 rfl rfl
theorem zy_799 : code.data.toList[799]? = some 4 := zt_12 31 799 4 rfl rfl
theorem zy_800 : code.data.toList[800]? = some 4 := zt_12 32 800 4 rfl rfl
theorem zy_801 : code.data.toList[801]? = some 96 := zt_12 33 801 96 rfl rfl
theorem zy_802 : code.data.toList[802]? = some 46 := zt_12 34 802 46 rfl rfl
theorem zy_803 : code.data.toList[803]? = some 182 := zt_12 35 803 182 rfl rfl
theorem zy_804 : code.data.toList[804]? = some 0 := zt_12 36 804 0 rfl rfl
theorem zy_805 : code.data.toList[805]? = some 94 := zt_12 37 805 94 rfl rfl
theorem zy_806 : code.data.toList[806]? = some 87 := zt_12 38 806 87 rfl rfl
theorem zy_807 : code.data.toList[807]? = some 44 := zt_12 39 807 44 rfl rfl
theorem zy_808 : code.data.toList[808]? = some 42 := zt_12 40 808 42 rfl rfl
theorem zy_809 : code.data.toList[809]? = some 21 := zt_12 41 809 21 rfl rfl
theorem zy_810 : code.data.toList[810]? = some 4 := zt_12 42 810 4 rfl rfl
theorem zy_811 : code.data.toList[811]? = some 4 := zt_12 43 811 4 rfl rfl
theorem zy_812 : code.data.toList[812]? = some 96 := zt_12 44 812 96 rfl rfl
theorem zy_813 : code.data.toList[813]? = some 46 := zt_12 45 813 46 rfl rfl
theorem zy_814 : code.data.toList[814]? = some 182 := zt_12 46 814 182 rfl rfl
theorem zy_815 : code.data.toList[815]? = some 0 := zt_12 47 815 0 rfl rfl
theorem zy_816 : code.data.toList[816]? = some 97 := zt_12 48 816 97 rfl rfl
theorem zy_817 : code.data.toList[817]? = some 87 := zt_12 49 817 87 rfl rfl
theorem zy_821 : code.data.toList[821]? = some 43 := zt_12 53 821 43 rfl rfl
theorem zy_822 : code.data.toList[822]? = some 42 := zt_12 54 822 42 rfl rfl
theorem zy_823 : code.data.toList[823]? = some 21 := zt_12 55 823 21 rfl rfl
theorem zy_824 : code.data.toList[824]? = some 4 := zt_12 56 824 4 rfl rfl
theorem zy_825 : code.data.toList[825]? = some 4 := zt_12 57 825 4 rfl rfl
theorem zy_826 : code.data.toList[826]? = some 96 := zt_12 58 826 96 rfl rfl
theorem zy_827 : code.data.toList[827]? = some 46 := zt_12 59 827 46 rfl rfl
theorem zy_828 : code.data.toList[828]? = some 182 := zt_12 60 828 182 rfl rfl
theorem zy_829 : code.data.toList[829]? = some 0 := zt_12 61 829 0 rfl rfl
theorem zy_830 : code.data.toList[830]? = some 98 := zt_12 62 830 98 rfl rfl
theorem zy_831 : code.data.toList[831]? = some 87 := zt_12 63 831 87 rfl rfl
theorem zy_832 : code.data.toList[832]? = some 44 := zt_13 0 832 44 rfl rfl
theorem zy_833 : code.data.toList[833]? = some 42 := zt_13 1 833 42 rfl rfl
theorem zy_834 : code.data.toList[834]? = some 21 := zt_13 2 834 21 rfl rfl
theorem zy_835 : code.data.toList[835]? = some 4 := zt_13 3 835 4 rfl rfl
theorem zy_836 : code.data.toList[836]? = some 4 := zt_13 4 836 4 rfl rfl
theorem zy_837 : code.data.toList[837]? = some 96 := zt_13 5 837 96 rfl rfl
theorem zy_838 : code.data.toList[838]? = some 46 := zt_13 6 838 46 rfl rfl
theorem zy_839 : code.data.toList[839]? = some 182 := zt_13 7 839 182 rfl rfl
theorem zy_840 : code.data.toList[840]? = some 0 := zt_13 8 840 0 rfl rfl
theorem zy_841 : code.data.toList[841]? = some 101 := zt_13 9 841 101 rfl rfl
theorem zy_842 : code.data.toList[842]? = some 87 := zt_13 10 842 87 rfl rfl
theorem zy_846 : code.data.toList[846]? = some 43 := zt_13 14 846 43 rfl rfl
theorem zy_847 : code.data.toList[847]? = some 42 := zt_13 15 847 42 rfl rfl
theorem zy_848 : code.data.toList[848]? = some 21 := zt_13 16 848 21 rfl rfl
theorem zy_849 : code.data.toList[849]? = some 4 := zt_13 17 849 4 rfl rfl
theorem zy_850 : code.data.toList[850]? = some 4 := zt_13 18 850 4 rfl rfl
theorem zy_851 : code.data.toList[851]? = some 96 := zt_13 19 851 96 rfl rfl
theorem zy_852 : code.data.toList[852]? = some 46 := zt_13 20 852 46 rfl rfl
theorem zy_853 : code.data.toList[853]? = some 42 := zt_13 21 853 42 rfl rfl
theorem zy_854 : code.data.toList[854]? = some 21 := zt_13 22 854 21 rfl rfl
theorem zy_855 : code.data.toList[855]? = some 4 := zt_13 23 855 4 rfl rfl
theorem zy_856 : code.data.toList[856]? = some 5 := zt_13 24 856 5 rfl rfl
theorem zy_857 : code.data.toList[857]? = some 96 := zt_13 25 857 96 rfl rfl
theorem zy_858 : code.data.toList[858]? = some 46 := zt_13 26 858 46 rfl rfl
theorem zy_863 : code.data.toList[863]? = some 42 := zt_13 31 863 42 rfl rfl
theorem zy_864 : code.data.toList[864]? = some 21 := zt_13 32 864 21 rfl rfl
theorem zy_865 : code.data.toList[865]? = some 4 := zt_13 33 865 4 rfl rfl
theorem zy_866 : code.data.toList[866]? = some 6 := zt_13 34 866 6 rfl rfl
theorem zy_867 : code.data.toList[867]? = some 96 := zt_13 35 867 96 rfl rfl
theorem zy_868 : code.data.toList[868]? = some 46 := zt_13 36 868 46 rfl rfl
theorem zy_875 : code.data.toList[875]? = some 182 := zt_13 43 875 182 rfl rfl
theorem zy_876 : code.data.toList[876]? = some 0 := zt_13 44 876 0 rfl rfl
theorem zy_877 : code.data.toList[877]? = some 104 := zt_13 45 877 104 rfl rfl
theorem zy_878 : code.data.toList[878]? = some 87 := zt_13 46 878 87 rfl rfl
theorem zy_879 : code.data.toList[879]? = some 44 := zt_13 47 879 44 rfl rfl
theorem zy_880 : code.data.toList[880]? = some 42 := zt_13 48 880 42 rfl rfl
theorem zy_881 : code.data.toList[881]? = some 21 := zt_13 49 881 21 rfl rfl
theorem zy_882 : code.data.toList[882]? = some 4 := zt_13 50 882 4 rfl rfl
theorem zy_883 : code.data.toList[883]? = some 4 := zt_13 51 883 4 rfl rfl
theorem zy_884 : code.data.toList[884]? = some 96 := zt_13 52 884 96 rfl rfl
theorem zy_885 : code.data.toList[885]? = some 46 := zt_13 53 885 46 rfl rfl
theorem zy_886 : code.data.toList[886]? = some 42 := zt_13 54 886 42 rfl rfl
theorem zy_887 : code.data.toList[887]? = some 21 := zt_13 55 887 21 rfl rfl
theorem zy_888 : code.data.toList[888]? = some 4 := zt_13 56 888 4 rfl rfl
theorem zy_889 : code.data.toList[889]? = some 5 := zt_13 57 889 5 rfl rfl
theorem zy_890 : code.data.toList[890]? = some 96 := zt_13 58 890 96 rfl rfl
theorem zy_891 : code.data.toList[891]? = some 46 := zt_13 59 891 46 rfl rfl
theorem zy_896 : code.data.toList[896]? = some 42 := zt_14 0 896 42 rfl rfl
theorem zy_897 : code.data.toList[897]? = some 21 := zt_14 1 897 21 rfl rfl
theorem zy_898 : code.data.toList[898]? = some 4 := zt_14 2 898 4 rfl rfl
theorem zy_899 : code.data.toList[899]? = some 6 := zt_14 3 899 6 rfl rfl
theorem zy_900 : code.data.toList[900]? = some 96 := zt_14 4 900 96 rfl rfl
theorem zy_901 : code.data.toList[901]? = some 46 := zt_14 5 901 46 rfl rfl
theorem zy_908 : code.data.toList[908]? = some 182 := zt_14 12 908 182 rfl rfl
theorem zy_909 : code.data.toList[909]? = some 0 := zt_14 13 909 0 rfl rfl
theorem zy_910 : code.data.toList[910]? = some 108 := zt_14 14 910 108 rfl rfl
theorem zy_911 : code.data.toList[911]? = some 87 := zt_14 15 911 87 rfl rfl
theorem zy_915 : code.data.toList[915]? = some 43 := zt_14 19 915 43 rfl rfl
theorem zy_916 : code.data.toList[916]? = some 42 := zt_14 20 916 42 rfl rfl
theorem zy_917 : code.data.toList[917]? = some 21 := zt_14 21 917 21 rfl rfl
theorem zy_918 : code.data.toList[918]? = some 4 := zt_14 22 918 4 rfl rfl
theorem zy_919 : code.data.toList[919]? = some 4 := zt_14 23 919 4 rfl rfl
theorem zy_920 : code.data.toList[920]? = some 96 := zt_14 24 920 96 rfl rfl
theorem zy_921 : code.data.toList[921]? = some 46 := zt_14 25 921 46 rfl rfl
theorem zy_922 : code.data.toList[922]? = some 182 := zt_14 26 922 182 rfl rfl
theorem zy_923 : code.data.toList[923]? = some 0 := zt_14 27 923 0 rfl rfl
theorem zy_924 : code.data.toList[924]? = some 109 := zt_14 28 924 109 rfl rfl
theorem zy_925 : code.data.toList[925]? = some 87 := zt_14 29 925 87 rfl rfl
theorem zy_926 : code.data.toList[926]? = some 44 := zt_14 30 926 44 rfl rfl
theorem zy_927 : code.data.toList[927]? = some 42 := zt_14 31 927 42 rfl rfl
theorem zy_928 : code.data.toList[928]? = some 21 := zt_14 32 928 21 rfl rfl
theorem zy_929 : code.data.toList[929]? = some 4 := zt_14 33 929 4 rfl rfl
theorem zy_930 : code.data.toList[930]? = some 4 := zt_14 34 930 4 rfl rfl
theorem zy_931 : code.data.toList[931]? = some 96 := zt_14 35 931 96 rfl rfl
theorem zy_932 : code.data.toList[932]? = some 46 := zt_14 36 932 46 rfl rfl
theorem zy_933 : code.data.toList[933]? = some 182 := zt_14 37 933 182 rfl rfl
theorem zy_934 : code.data.toList[934]? = some 0 := zt_14 38 934 0 rfl rfl
theorem zy_935 : code.data.toList[935]? = some 112 := zt_14 39 935 112 rfl rfl
theorem zy_936 : code.data.toList[936]? = some 87 := zt_14 40 936 87 rfl rfl
theorem zy_940 : code.data.toList[940]? = some 43 := zt_14 44 940 43 rfl rfl
theorem zy_941 : code.data.toList[941]? = some 182 := zt_14 45 941 182 rfl rfl
theorem zy_942 : code.data.toList[942]? = some 0 := zt_14 46 942 0 rfl rfl
theorem zy_943 : code.data.toList[943]? = some 113 := zt_14 47 943 113 rfl rfl
theorem zy_944 : code.data.toList[944]? = some 87 := zt_14 48 944 87 rfl rfl
theorem zy_945 : code.data.toList[945]? = some 44 := zt_14 49 945 44 rfl rfl
theorem zy_946 : code.data.toList[946]? = some 182 := zt_14 50 946 182 rfl rfl
theorem zy_947 : code.data.toList[947]? = some 0 := zt_14 51 947 0 rfl rfl
theorem zy_948 : code.data.toList[948]? = some 116 := zt_14 52 948 116 rfl rfl
theorem zy_949 : code.data.toList[949]? = some 87 := zt_14 53 949 87 rfl rfl
theorem zy_953 : code.data.toList[953]? = some 43 := zt_14 57 953 43 rfl rfl
theorem zy_954 : code.data.toList[954]? = some 42 := zt_14 58 954 42 rfl rfl
theorem zy_955 : code.data.toList[955]? = some 21 := zt_14 59 955 21 rfl rfl
theorem zy_956 : code.data.toList[956]? = some 4 := zt_14 60 956 4 rfl rfl
theorem zy_957 : code.data.toList[957]? = some 4 := zt_14 61 957 4 rfl rfl
theorem zy_958 : code.data.toList[958]? = some 96 := zt_14 62 958 96 rfl rfl
theorem zy_959 : code.data.toList[959]? = some 46 := zt_14 63 959 46 rfl rfl
theorem zy_960 : code.data.toList[960]? = some 42 := zt_15 0 960 42 rfl rfl
theorem zy_961 : code.data.toList[961]? = some 21 := zt_15 1 961 21 rfl rfl
theorem zy_962 : code.data.toList[962]? = some 4 := zt_15 2 962 4 rfl rfl
theorem zy_963 : code.data.toList[963]? = some 5 := zt_15 3 963 5 rfl rfl
theorem zy_964 : code.data.toList[964]? = some 96 := zt_15 4 964 96 rfl rfl
theorem zy_965 : code.data.toList[965]? = some 46 := zt_15 5 965 46 rfl rfl
theorem zy_966 : code.data.toList[966]? = some 182 := zt_15 6 966 182 rfl rfl
theorem zy_967 : code.data.toList[967]? = some 0 := zt_15 7 967 0 rfl rfl
theorem zy_968 : code.data.toList[968]? = some 117 := zt_15 8 968 117 rfl rfl
theorem zy_969 : code.data.toList[969]? = some 87 := zt_15 9 969 87 rfl rfl
theorem zy_970 : code.data.toList[970]? = some 44 := zt_15 10 970 44 rfl rfl
theorem zy_971 : code.data.toList[971]? = some 42 := zt_15 11 971 42 rfl rfl
theorem zy_972 : code.data.toList[972]? = some 21 := zt_15 12 972 21 rfl rfl
theorem zy_973 : code.data.toList[973]? = some 4 := zt_15 13 973 4 rfl rfl
theorem zy_974 : code.data.toList[974]? = some 4 := zt_15 14 974 4 rfl rfl
theorem zy_975 : code.data.toList[975]? = some 96 := zt_15 15 975 96 rfl rfl
theorem zy_976 : code.data.toList[976]? = some 46 := zt_15 16 976 46 rfl rfl
theorem zy_977 : code.data.toList[977]? = some 42 := zt_15 17 977 42 rfl rfl
theorem zy_978 : code.data.toList[978]? = some 21 := zt_15 18 978 21 rfl rfl
theorem zy_979 : code.data.toList[979]? = some 4 := zt_15 19 979 4 rfl rfl
theorem zy_980 : code.data.toList[980]? = some 5 := zt_15 20 980 5 rfl rfl
theorem zy_981 : code.data.toList[981]? = some 96 := zt_15 21 981 96 rfl rfl
theorem zy_982 : code.data.toList[982]? = some 46 := zt_15 22 982 46 rfl rfl
theorem zy_983 : code.data.toList[983]? = some 182 := zt_15 23 983 182 rfl rfl
theorem zy_984 : code.data.toList[984]? = some 0 := zt_15 24 984 0 rfl rfl
theorem zy_985 : code.data.toList[985]? = some 120 := zt_15 25 985 120 rfl rfl
theorem zy_986 : code.data.toList[986]? = some 87 := zt_15 26 986 87 rfl rfl
theorem zy_990 : code.data.toList[990]? = some 43 := zt_15 30 990 43 rfl rfl
theorem zy_991 : code.data.toList[991]? = some 42 := zt_15 31 991 42 rfl rfl
theorem zy_992 : code.data.toList[992]? = some 21 := zt_15 32 992 21 rfl rfl
theorem zy_993 : code.data.toList[993]? = some 4 := zt_15 33 993 4 rfl rfl
theorem zy_994 : code.data.toList[994]? = some 4 := zt_15 34 994 4 rfl rfl
theorem zy_995 : code.data.toList[995]? = some 96 := zt_15 35 995 96 rfl rfl
theorem zy_996 : code.data.toList[996]? = some 46 := zt_15 36 996 46 rfl rfl
theorem zy_997 : code.data.toList[997]? = some 182 := zt_15 37 997 182 rfl rfl
theorem zy_998 : code.data.toList[998]? = some 0 := zt_15 38 998 0 rfl rfl
theorem zy_999 : code.data.toList[999]? = some 121 := zt_15 39 999 121 rfl rfl
theorem zy_1000 : code.data.toList[1000]? = some 87 := zt_15 40 1000 87 rfl rfl
theorem zy_1001 : code.data.toList[1001]? = some 44 := zt_15 41 1001 44 rfl rfl
theorem zy_1002 : code.data.toList[1002]? = some 42 := zt_15 42 1002 42 rfl rfl
theorem zy_1003 : code.data.toList[1003]? = some 21 := zt_15 43 1003 21 rfl rfl
theorem zy_1004 : code.data.toList[1004]? = some 4 := zt_15 44 1004 4 rfl rfl
theorem zy_1005 : code.data.toList[1005]? = some 4 := zt_15 45 1005 4 rfl rfl
theorem zy_1006 : code.data.toList[1006]? = some 96 := zt_15 46 1006 96 rfl rfl
theorem zy_1007 : code.data.toList[1007]? = some 46 := zt_15 47 1007 46 rfl rfl
theorem zy_1008 : code.data.toList[1008]? = some 182 := zt_15 48 1008 182 rfl rfl
theorem zy_1009 : code.data.toList[1009]? = some 0 := zt_15 49 1009 0 rfl rfl
theorem zy_1010 : code.data.toList[1010]? = some 124 := zt_15 50 1010 124 rfl rfl
theorem zy_1011 : code.data.toList[1011]? = some 87 := zt_15 51 1011 87 rfl rfl
theorem zy_1015 : code.data.toList[1015]? = some 43 := zt_15 55 1015 43 rfl rfl
theorem zy_1016 : code.data.toList[1016]? = some 42 := zt_15 56 1016 42 rfl rfl
theorem zy_1017 : code.data.toList[1017]? = some 21 := zt_15 57 1017 21 rfl rfl
theorem zy_1018 : code.data.toList[1018]? = some 4 := zt_15 58 1018 4 rfl rfl
theorem zy_1019 : code.data.toList[1019]? = some 4 := zt_15 59 1019 4 rfl rfl
theorem zy_1020 : code.data.toList[1020]? = some 96 := zt_15 60 1020 96 rfl rfl
theorem zy_1021 : code.data.toList[1021]? = some 46 := zt_15 61 1021 46 rfl rfl
theorem zy_1022 : code.data.toList[1022]? = some 42 := zt_15 62 1022 42 rfl rfl
theorem zy_1023 : code.data.toList[1023]? = some 21 := zt_15 63 1023 21 rfl rfl
theorem zy_1024 : code.data.toList[1024]? = some 4 := zt_16 0 1024 4 rfl rfl
theorem zy_1025 : code.data.toList[1025]? = some 5 := zt_16 1 1025 5 rfl rfl
theorem zy_1026 : code.data.toList[1026]? = some 96 := zt_16 2 1026 96 rfl rfl
theorem zy_1027 : code.data.toList[1027]? = some 46 := zt_16 3 1027 46 rfl rfl
theorem zy_1028 : code.data.toList[1028]? = some 182 := zt_16 4 1028 182 rfl rfl
theorem zy_1029 : code.data.toList[1029]? = some 0 := zt_16 5 1029 0 rfl rfl
theorem zy_1030 : code.data.toList[1030]? = some 125 := zt_16 6 1030 125 rfl rfl
theorem zy_1031 : code.data.toList[1031]? = some 87 := zt_16 7 1031 87 rfl rfl
theorem zy_1032 : code.data.toList[1032]? = some 44 := zt_16 8 1032 44 rfl rfl
theorem zy_1033 : code.data.toList[1033]? = some 42 := zt_16 9 1033 42 rfl rfl
theorem zy_1034 : code.data.toList[1034]? = some 21 := zt_16 10 1034 21 rfl rfl
theorem zy_1035 : code.data.toList[1035]? = some 4 := zt_16 11 1035 4 rfl rfl
theorem zy_1036 : code.data.toList[1036]? = some 4 := zt_16 12 1036 4 rfl rfl
theorem zy_1037 : code.data.toList[1037]? = some 96 := zt_16 13 1037 96 rfl rfl
theorem zy_1038 : code.data.toList[1038]? = some 46 := zt_16 14 1038 46 rfl rfl
theorem zy_1039 : code.data.toList[1039]? = some 42 := zt_16 15 1039 42 rfl rfl
theorem zy_1040 : code.data.toList[1040]? = some 21 := zt_16 16 1040 21 rfl rfl
theorem zy_1041 : code.data.toList[1041]? = some 4 := zt_16 17 1041 4 rfl rfl
theorem zy_1042 : code.data.toList[1042]? = some 5 := zt_16 18 1042 5 rfl rfl
theorem zy_1043 : code.data.toList[1043]? = some 96 := zt_16 19 1043 96 rfl rfl
theorem zy_1044 : code.data.toList[1044]? = some 46 := zt_16 20 1044 46 rfl rfl
theorem zy_1045 : code.data.toList[1045]? = some 182 := zt_16 21 1045 182 rfl rfl
theorem zy_1046 : code.data.toList[1046]? = some 0 := zt_16 22 1046 0 rfl rfl
theorem zy_1047 : code.data.toList[1047]? = some 128 := zt_16 23 1047 128 rfl rfl
theorem zy_1048 : code.data.toList[1048]? = some 87 := zt_16 24 1048 87 rfl rfl
theorem zy_1052 : code.data.toList[1052]? = some 43 := zt_16 28 1052 43 rfl rfl
theorem zy_1053 : code.data.toList[1053]? = some 42 := zt_16 29 1053 42 rfl rfl
theorem zy_1054 : code.data.toList[1054]? = some 21 := zt_16 30 1054 21 rfl rfl
theorem zy_1055 : code.data.toList[1055]? = some 4 := zt_16 31 1055 4 rfl rfl
theorem zy_1056 : code.data.toList[1056]? = some 4 := zt_16 32 1056 4 rfl rfl
theorem zy_1057 : code.data.toList[1057]? = some 96 := zt_16 33 1057 96 rfl rfl
theorem zy_1058 : code.data.toList[1058]? = some 46 := zt_16 34 1058 46 rfl rfl
theorem zy_1059 : code.data.toList[1059]? = some 42 := zt_16 35 1059 42 rfl rfl
theorem zy_1060 : code.data.toList[1060]? = some 21 := zt_16 36 1060 21 rfl rfl
theorem zy_1061 : code.data.toList[1061]? = some 4 := zt_16 37 1061 4 rfl rfl
theorem zy_1062 : code.data.toList[1062]? = some 5 := zt_16 38 1062 5 rfl rfl
theorem zy_1063 : code.data.toList[1063]? = some 96 := zt_16 39 1063 96 rfl rfl
theorem zy_1064 : code.data.toList[1064]? = some 46 := zt_16 40 1064 46 rfl rfl
theorem zy_1065 : code.data.toList[1065]? = some 182 := zt_16 41 1065 182 rfl rfl
theorem zy_1066 : code.data.toList[1066]? = some 0 := zt_16 42 1066 0 rfl rfl
theorem zy_1067 : code.data.toList[1067]? = some 129 := zt_16 43 1067 129 rfl rfl
theorem zy_1068 : code.data.toList[1068]? = some 87 := zt_16 44 1068 87 rfl rfl
theorem zy_1069 : code.data.toList[1069]? = some 44 := zt_16 45 1069 44 rfl rfl
theorem zy_1070 : code.data.toList[1070]? = some 42 := zt_16 46 1070 42 rfl rfl
theorem zy_1071 : code.data.toList[1071]? = some 21 := zt_16 47 1071 21 rfl rfl
theorem zy_1072 : code.data.toList[1072]? = some 4 := zt_16 48 1072 4 rfl rfl
theorem zy_1073 : code.data.toList[1073]? = some 4 := zt_16 49 1073 4 rfl rfl
theorem zy_1074 : code.data.toList[1074]? = some 96 := zt_16 50 1074 96 rfl rfl
theorem zy_1075 : code.data.toList[1075]? = some 46 := zt_16 51 1075 46 rfl rfl
theorem zy_1076 : code.data.toList[1076]? = some 42 := zt_16 52 1076 42 rfl rfl
theorem zy_1077 : code.data.toList[1077]? = some 21 := zt_16 53 1077 21 rfl rfl
theorem zy_1078 : code.data.toList[1078]? = some 4 := zt_16 54 1078 4 rfl rfl
theorem zy_1079 : code.data.toList[1079]? = some 5 := zt_16 55 1079 5 rfl rfl
theorem zy_1080 : code.data.toList[1080]? = some 96 := zt_16 56 1080 96 rfl rfl
theorem zy_1081 : code.data.toList[1081]? = some 46 := zt_16 57 1081 46 rfl rfl
theorem zy_1082 : code.data.toList[1082]? = some 182 := zt_16 58 1082 182 rfl rfl
theorem zy_1083 : code.data.toList[1083]? = some 0 := zt_16 59 1083 0 rfl rfl
theorem zy_1084 : code.data.toList[1084]? = some 132 := zt_16 60 1084 132 rfl rfl
theorem zy_1085 : code.data.toList[1085]? = some 87 := zt_16 61 1085 87 rfl rfl
theorem zy_1089 : code.data.toList[1089]? = some 43 := zt_17 1 1089 43 rfl rfl
theorem zy_1090 : code.data.toList[1090]? = some 42 := zt_17 2 1090 42 rfl rfl
theorem zy_1091 : code.data.toList[1091]? = some 21 := zt_17 3 1091 21 rfl rfl
theorem zy_1092 : code.data.toList[1092]? = some 4 := zt_17 4 1092 4 rfl rfl
theorem zy_1093 : code.data.toList[1093]? = some 4 := zt_17 5 1093 4 rfl rfl
theorem zy_1094 : code.data.toList[1094]? = some 96 := zt_17 6 1094 96 rfl rfl
theorem zy_1095 : code.data.toList[1095]? = some 46 := zt_17 7 1095 46 rfl rfl
theorem zy_1096 : code.data.toList[1096]? = some 42 := zt_17 8 1096 42 rfl rfl
theorem zy_1097 : code.data.toList[1097]? = some 21 := zt_17 9 1097 21 rfl rfl
theorem zy_1098 : code.data.toList[1098]? = some 4 := zt_17 10 1098 4 rfl rfl
theorem zy_1099 : code.data.toList[1099]? = some 5 := zt_17 11 1099 5 rfl rfl
theorem zy_1100 : code.data.toList[1100]? = some 96 := zt_17 12 1100 96 rfl rfl
theorem zy_1101 : code.data.toList[1101]? = some 46 := zt_17 13 1101 46 rfl rfl
theorem zy_1102 : code.data.toList[1102]? = some 182 := zt_17 14 1102 182 rfl rfl
theorem zy_1103 : code.data.toList[1103]? = some 0 := zt_17 15 1103 0 rfl rfl
theorem zy_1104 : code.data.toList[1104]? = some 133 := zt_17 16 1104 133 rfl rfl
theorem zy_1105 : code.data.toList[1105]? = some 87 := zt_17 17 1105 87 rfl rfl
theorem zy_1106 : code.data.toList[1106]? = some 44 := zt_17 18 1106 44 rfl rfl
theorem zy_1107 : code.data.toList[1107]? = some 42 := zt_17 19 1107 42 rfl rfl
theorem zy_1108 : code.data.toList[1108]? = some 21 := zt_17 20 1108 21 rfl rfl
theorem zy_1109 : code.data.toList[1109]? = some 4 := zt_17 21 1109 4 rfl rfl
theorem zy_1110 : code.data.toList[1110]? = some 4 := zt_17 22 1110 4 rfl rfl
theorem zy_1111 : code.data.toList[1111]? = some 96 := zt_17 23 1111 96 rfl rfl
theorem zy_1112 : code.data.toList[1112]? = some 46 := zt_17 24 1112 46 rfl rfl
theorem zy_1113 : code.data.toList[1113]? = some 42 := zt_17 25 1113 42 rfl rfl
theorem zy_1114 : code.data.toList[1114]? = some 21 := zt_17 26 1114 21 rfl rfl
theorem zy_1115 : code.data.toList[1115]? = some 4 := zt_17 27 1115 4 rfl rfl
theorem zy_1116 : code.data.toList[1116]? = some 5 := zt_17 28 1116 5 rfl rfl
theorem zy_1117 : code.data.toList[1117]? = some 96 := zt_17 29 1117 96 rfl rfl
theorem zy_1118 : code.data.toList[1118]? = some 46 := zt_17 30 1118 46 rfl rfl
theorem zy_1119 : code.data.toList[1119]? = some 182 := zt_17 31 1119 182 rfl rfl
theorem zy_1120 : code.data.toList[1120]? = some 0 := zt_17 32 1120 0 rfl rfl
theorem zy_1121 : code.data.toList[1121]? = some 136 := zt_17 33 1121 136 rfl rfl
theorem zy_1122 : code.data.toList[1122]? = some 87 := zt_17 34 1122 87 rfl rfl
theorem zy_1126 : code.data.toList[1126]? = some 43 := zt_17 38 1126 43 rfl rfl
theorem zy_1127 : code.data.toList[1127]? = some 42 := zt_17 39 1127 42 rfl rfl
theorem zy_1128 : code.data.toList[1128]? = some 21 := zt_17 40 1128 21 rfl rfl
theorem zy_1129 : code.data.toList[1129]? = some 4 := zt_17 41 1129 4 rfl rfl
theorem zy_1130 : code.data.toList[1130]? = some 4 := zt_17 42 1130 4 rfl rfl
theorem zy_1131 : code.data.toList[1131]? = some 96 := zt_17 43 1131 96 rfl rfl
theorem zy_1132 : code.data.toList[1132]? = some 46 := zt_17 44 1132 46 rfl rfl
theorem zy_1133 : code.data.toList[1133]? = some 182 := zt_17 45 1133 182 rfl rfl
theorem zy_1134 : code.data.toList[1134]? = some 0 := zt_17 46 1134 0 rfl rfl
theorem zy_1135 : code.data.toList[1135]? = some 137 := zt_17 47 1135 137 rfl rfl
theorem zy_1136 : code.data.toList[1136]? = some 87 := zt_17 48 1136 87 rfl rfl
theorem zy_1137 : code.data.toList[1137]? = some 44 := zt_17 49 1137 44 rfl rfl
theorem zy_1138 : code.data.toList[1138]? = some 42 := zt_17 50 1138 42 rfl rfl
theorem zy_1139 : code.data.toList[1139]? = some 21 := zt_17 51 1139 21 rfl rfl
theorem zy_1140 : code.data.toList[1140]? = some 4 := zt_17 52 1140 4 rfl rfl
theorem zy_1141 : code.data.toList[1141]? = some 4 := zt_17 53 1141 4 rfl rfl
theorem zy_1142 : code.data.toList[1142]? = some 96 := zt_17 54 1142 96 rfl rfl
theorem zy_1143 : code.data.toList[1143]? = some 46 := zt_17 55 1143 46 rfl rfl
theorem zy_1144 : code.data.toList[1144]? = some 182 := zt_17 56 1144 182 rfl rfl
theorem zy_1145 : code.data.toList[1145]? = some 0 := zt_17 57 1145 0 rfl rfl
theorem zy_1146 : code.data.toList[1146]? = some 140 := zt_17 58 1146 140 rfl rfl
theorem zy_1147 : code.data.toList[1147]? = some 87 := zt_17 59 1147 87 rfl rfl
theorem zy_1151 : code.data.toList[1151]? = some 43 := zt_17 63 1151 43 rfl rfl
theorem zy_1152 : code.data.toList[1152]? = some 42 := zt_18 0 1152 42 rfl rfl
theorem zy_1153 : code.data.toList[1153]? = some 21 := zt_18 1 1153 21 rfl rfl
theorem zy_1154 : code.data.toList[1154]? = some 4 := zt_18 2 1154 4 rfl rfl
theorem zy_1155 : code.data.toList[1155]? = some 4 := zt_18 3 1155 4 rfl rfl
theorem zy_1156 : code.data.toList[1156]? = some 96 := zt_18 4 1156 96 rfl rfl
theorem zy_1157 : code.data.toList[1157]? = some 46 := zt_18 5 1157 46 rfl rfl
theorem zy_1158 : code.data.toList[1158]? = some 182 := zt_18 6 1158 182 rfl rfl
theorem zy_1159 : code.data.toList[1159]? = some 0 := zt_18 7 1159 0 rfl rfl
theorem zy_1160 : code.data.toList[1160]? = some 141 := zt_18 8 1160 141 rfl rfl
theorem zy_1161 : code.data.toList[1161]? = some 87 := zt_18 9 1161 87 rfl rfl
theorem zy_1162 : code.data.toList[1162]? = some 44 := zt_18 10 1162 44 rfl rfl
theorem zy_1163 : code.data.toList[1163]? = some 42 := zt_18 11 1163 42 rfl rfl
theorem zy_1164 : code.data.toList[1164]? = some 21 := zt_18 12 1164 21 rfl rfl
theorem zy_1165 : code.data.toList[1165]? = some 4 := zt_18 13 1165 4 rfl rfl
theorem zy_1166 : code.data.toList[1166]? = some 4 := zt_18 14 1166 4 rfl rfl
theorem zy_1167 : code.data.toList[1167]? = some 96 := zt_18 15 1167 96 rfl rfl
theorem zy_1168 : code.data.toList[1168]? = some 46 := zt_18 16 1168 46 rfl rfl
theorem zy_1169 : code.data.toList[1169]? = some 182 := zt_18 17 1169 182 rfl rfl
theorem zy_1170 : code.data.toList[1170]? = some 0 := zt_18 18 1170 0 rfl rfl
theorem zy_1171 : code.data.toList[1171]? = some 144 := zt_18 19 1171 144 rfl rfl
theorem zy_1172 : code.data.toList[1172]? = some 87 := zt_18 20 1172 87 rfl rfl
theorem zy_1176 : code.data.toList[1176]? = some 43 := zt_18 24 1176 43 rfl rfl
theorem zy_1177 : code.data.toList[1177]? = some 42 := zt_18 25 1177 42 rfl rfl
theorem zy_1178 : code.data.toList[1178]? = some 21 := zt_18 26 1178 21 rfl rfl
theorem zy_1179 : code.data.toList[1179]? = some 4 := zt_18 27 1179 4 rfl rfl
theorem zy_1180 : code.data.toList[1180]? = some 4 := zt_18 28 1180 4 rfl rfl
theorem zy_1181 : code.data.toList[1181]? = some 96 := zt_18 29 1181 96 rfl rfl
theorem zy_1182 : code.data.toList[1182]? = some 46 := zt_18 30 1182 46 rfl rfl
theorem zy_1183 : code.data.toList[1183]? = some 42 := zt_18 31 1183 42 rfl rfl
theorem zy_1184 : code.data.toList[1184]? = some 21 := zt_18 32 1184 21 rfl rfl
theorem zy_1185 : code.data.toList[1185]? = some 4 := zt_18 33 1185 4 rfl rfl
theorem zy_1186 : code.data.toList[1186]? = some 5 := zt_18 34 1186 5 rfl rfl
theorem zy_1187 : code.data.toList[1187]? = some 96 := zt_18 35 1187 96 rfl rfl
theorem zy_1188 : code.data.toList[1188]? = some 46 := zt_18 36 1188 46 rfl rfl
theorem zy_1189 : code.data.toList[1189]? = some 182 := zt_18 37 1189 182 rfl rfl
theorem zy_1190 : code.data.toList[1190]? = some 0 := zt_18 38 1190 0 rfl rfl
theorem zy_1191 : code.data.toList[1191]? = some 145 := zt_18 39 1191 145 rfl rfl
theorem zy_1192 : code.data.toList[1192]? = some 87 := zt_18 40 1192 87 rfl rfl
theorem zy_1193 : code.data.toList[1193]? = some 44 := zt_18 41 1193 44 rfl rfl
theorem zy_1194 : code.data.toList[1194]? = some 42 := zt_18 42 1194 42 rfl rfl
theorem zy_1195 : code.data.toList[1195]? = some 21 := zt_18 43 1195 21 rfl rfl
theorem zy_1196 : code.data.toList[1196]? = some 4 := zt_18 44 1196 4 rfl rfl
theorem zy_1197 : code.data.toList[1197]? = some 4 := zt_18 45 1197 4 rfl rfl
theorem zy_1198 : code.data.toList[1198]? = some 96 := zt_18 46 1198 96 rfl rfl
theorem zy_1199 : code.data.toList[1199]? = some 46 := zt_18 47 1199 46 rfl rfl
theorem zy_1200 : code.data.toList[1200]? = some 42 := zt_18 48 1200 42 rfl rfl
theorem zy_1201 : code.data.toList[1201]? = some 21 := zt_18 49 1201 21 rfl rfl
theorem zy_1202 : code.data.toList[1202]? = some 4 := zt_18 50 1202 4 rfl rfl
theorem zy_1203 : code.data.toList[1203]? = some 5 := zt_18 51 1203 5 rfl rfl
theorem zy_1204 : code.data.toList[1204]? = some 96 := zt_18 52 1204 96 rfl rfl
theorem zy_1205 : code.data.toList[1205]? = some 46 := zt_18 53 1205 46 rfl rfl
theorem zy_1206 : code.data.toList[1206]? = some 182 := zt_18 54 1206 182 rfl rfl
theorem zy_1207 : code.data.toList[1207]? = some 0 := zt_18 55 1207 0 rfl rfl
theorem zy_1208 : code.data.toList[1208]? = some 148 := zt_18 56 1208 148 rfl rfl
theorem zy_1209 : code.data.toList[1209]? = some 87 := zt_18 57 1209 87 rfl rfl
theorem zy_1213 : code.data.toList[1213]? = some 43 := zt_18 61 1213 43 rfl rfl
theorem zy_1214 : code.data.toList[1214]? = some 42 := zt_18 62 1214 42 rfl rfl
theorem zy_1215 : code.data.toList[1215]? = some 21 := zt_18 63 1215 21 rfl rfl
theorem zy_1216 : code.data.toList[1216]? = some 4 := zt_19 0 1216 4 rfl rfl
theorem zy_1217 : code.data.toList[1217]? = some 4 := zt_19 1 1217 4 rfl rfl
theorem zy_1218 : code.data.toList[1218]? = some 96 := zt_19 2 1218 96 rfl rfl
theorem zy_1219 : code.data.toList[1219]? = some 46 := zt_19 3 1219 46 rfl rfl
theorem zy_1220 : code.data.toList[1220]? = some 182 := zt_19 4 1220 182 rfl rfl
theorem zy_1221 : code.data.toList[1221]? = some 0 := zt_19 5 1221 0 rfl rfl
theorem zy_1222 : code.data.toList[1222]? = some 149 := zt_19 6 1222 149 rfl rfl
theorem zy_1223 : code.data.toList[1223]? = some 87 := zt_19 7 1223 87 rfl rfl
theorem zy_1224 : code.data.toList[1224]? = some 44 := zt_19 8 1224 44 rfl rfl
theorem zy_1225 : code.data.toList[1225]? = some 42 := zt_19 9 1225 42 rfl rfl
theorem zy_1226 : code.data.toList[1226]? = some 21 := zt_19 10 1226 21 rfl rfl
theorem zy_1227 : code.data.toList[1227]? = some 4 := zt_19 11 1227 4 rfl rfl
theorem zy_1228 : code.data.toList[1228]? = some 4 := zt_19 12 1228 4 rfl rfl
theorem zy_1229 : code.data.toList[1229]? = some 96 := zt_19 13 1229 96 rfl rfl
theorem zy_1230 : code.data.toList[1230]? = some 46 := zt_19 14 1230 46 rfl rfl
theorem zy_1231 : code.data.toList[1231]? = some 182 := zt_19 15 1231 182 rfl rfl
theorem zy_1232 : code.data.toList[1232]? = some 0 := zt_19 16 1232 0 rfl rfl
theorem zy_1233 : code.data.toList[1233]? = some 152 := zt_19 17 1233 152 rfl rfl
theorem zy_1234 : code.data.toList[1234]? = some 87 := zt_19 18 1234 87 rfl rfl
theorem zy_1238 : code.data.toList[1238]? = some 43 := zt_19 22 1238 43 rfl rfl
theorem zy_1239 : code.data.toList[1239]? = some 42 := zt_19 23 1239 42 rfl rfl
theorem zy_1240 : code.data.toList[1240]? = some 21 := zt_19 24 1240 21 rfl rfl
theorem zy_1241 : code.data.toList[1241]? = some 4 := zt_19 25 1241 4 rfl rfl
theorem zy_1242 : code.data.toList[1242]? = some 4 := zt_19 26 1242 4 rfl rfl
theorem zy_1243 : code.data.toList[1243]? = some 96 := zt_19 27 1243 96 rfl rfl
theorem zy_1244 : code.data.toList[1244]? = some 46 := zt_19 28 1244 46 rfl rfl
theorem zy_1245 : code.data.toList[1245]? = some 42 := zt_19 29 1245 42 rfl rfl
theorem zy_1246 : code.data.toList[1246]? = some 21 := zt_19 30 1246 21 rfl rfl
theorem zy_1247 : code.data.toList[1247]? = some 4 := zt_19 31 1247 4 rfl rfl
theorem zy_1248 : code.data.toList[1248]? = some 5 := zt_19 32 1248 5 rfl rfl
theorem zy_1249 : code.data.toList[1249]? = some 96 := zt_19 33 1249 96 rfl rfl
theorem zy_1250 : code.data.toList[1250]? = some 46 := zt_19 34 1250 46 rfl rfl
theorem zy_1251 : code.data.toList[1251]? = some 42 := zt_19 35 1251 42 rfl rfl
theorem zy_1252 : code.data.toList[1252]? = some 21 := zt_19 36 1252 21 rfl rfl
theorem zy_1253 : code.data.toList[1253]? = some 4 := zt_19 37 1253 4 rfl rfl
theorem zy_1254 : code.data.toList[1254]? = some 6 := zt_19 38 1254 6 rfl rfl
theorem zy_1255 : code.data.toList[1255]? = some 96 := zt_19 39 1255 96 rfl rfl
theorem zy_1256 : code.data.toList[1256]? = some 46 := zt_19 40 1256 46 rfl rfl
theorem zy_1257 : code.data.toList[1257]? = some 42 := zt_19 41 1257 42 rfl rfl
theorem zy_1258 : code.data.toList[1258]? = some 21 := zt_19 42 1258 21 rfl rfl
theorem zy_1259 : code.data.toList[1259]? = some 4 := zt_19 43 1259 4 rfl rfl
theorem zy_1260 : code.data.toList[1260]? = some 7 := zt_19 44 1260 7 rfl rfl
theorem zy_1261 : code.data.toList[1261]? = some 96 := zt_19 45 1261 96 rfl rfl
theorem zy_1262 : code.data.toList[1262]? = some 46 := zt_19 46 1262 46 rfl rfl
theorem zy_1263 : code.data.toList[1263]? = some 42 := zt_19 47 1263 42 rfl rfl
theorem zy_1264 : code.data.toList[1264]? = some 21 := zt_19 48 1264 21 rfl rfl
theorem zy_1265 : code.data.toList[1265]? = some 4 := zt_19 49 1265 4 rfl rfl
theorem zy_1266 : code.data.toList[1266]? = some 8 := zt_19 50 1266 8 rfl rfl
theorem zy_1267 : code.data.toList[1267]? = some 96 := zt_19 51 1267 96 rfl rfl
theorem zy_1268 : code.data.toList[1268]? = some 46 := zt_19 52 1268 46 rfl rfl
theorem zy_1269 : code.data.toList[1269]? = some 42 := zt_19 53 1269 42 rfl rfl
theorem zy_1270 : code.data.toList[1270]? = some 21 := zt_19 54 1270 21 rfl rfl
theorem zy_1271 : code.data.toList[1271]? = some 4 := zt_19 55 1271 4 rfl rfl
theorem zy_1274 : code.data.toList[1274]? = some 96 := zt_19 58 1274 96 rfl rfl
theorem zy_1275 : code.data.toList[1275]? = some 46 := zt_19 59 1275 46 rfl rfl
theorem zy_1276 : code.data.toList[1276]? = some 182 := zt_19 60 1276 182 rfl rfl
theorem zy_1277 : code.data.toList[1277]? = some 0 := zt_19 61 1277 0 rfl rfl
theorem zy_1278 : code.data.toList[1278]? = some 153 := zt_19 62 1278 153 rfl rfl
theorem zy_1279 : code.data.toList[1279]? = some 87 := zt_19 63 1279 87 rfl rfl
theorem zy_1280 : code.data.toList[1280]? = some 44 := zt_20 0 1280 44 rfl rfl
theorem zy_1281 : code.data.toList[1281]? = some 42 := zt_20 1 1281 42 rfl rfl
theorem zy_1282 : code.data.toList[1282]? = some 21 := zt_20 2 1282 21 rfl rfl
theorem zy_1283 : code.data.toList[1283]? = some 4 := zt_20 3 1283 4 rfl rfl
theorem zy_1284 : code.data.toList[1284]? = some 4 := zt_20 4 1284 4 rfl rfl
theorem zy_1285 : code.data.toList[1285]? = some 96 := zt_20 5 1285 96 rfl rfl
theorem zy_1286 : code.data.toList[1286]? = some 46 := zt_20 6 1286 46 rfl rfl
theorem zy_1287 : code.data.toList[1287]? = some 42 := zt_20 7 1287 42 rfl rfl
theorem zy_1288 : code.data.toList[1288]? = some 21 := zt_20 8 1288 21 rfl rfl
theorem zy_1289 : code.data.toList[1289]? = some 4 := zt_20 9 1289 4 rfl rfl
theorem zy_1290 : code.data.toList[1290]? = some 5 := zt_20 10 1290 5 rfl rfl
theorem zy_1291 : code.data.toList[1291]? = some 96 := zt_20 11 1291 96 rfl rfl
theorem zy_1292 : code.data.toList[1292]? = some 46 := zt_20 12 1292 46 rfl rfl
theorem zy_1293 : code.data.toList[1293]? = some 42 := zt_20 13 1293 42 rfl rfl
theorem zy_1294 : code.data.toList[1294]? = some 21 := zt_20 14 1294 21 rfl rfl
theorem zy_1295 : code.data.toList[1295]? = some 4 := zt_20 15 1295 4 rfl rfl
theorem zy_1296 : code.data.toList[1296]? = some 6 := zt_20 16 1296 6 rfl rfl
theorem zy_1297 : code.data.toList[1297]? = some 96 := zt_20 17 1297 96 rfl rfl
theorem zy_1298 : code.data.toList[1298]? = some 46 := zt_20 18 1298 46 rfl rfl
theorem zy_1299 : code.data.toList[1299]? = some 42 := zt_20 19 1299 42 rfl rfl
theorem zy_1300 : code.data.toList[1300]? = some 21 := zt_20 20 1300 21 rfl rfl
theorem zy_1301 : code.data.toList[1301]? = some 4 := zt_20 21 1301 4 rfl rfl
theorem zy_1302 : code.data.toList[1302]? = some 7 := zt_20 22 1302 7 rfl rfl
theorem zy_1303 : code.data.toList[1303]? = some 96 := zt_20 23 1303 96 rfl rfl
theorem zy_1304 : code.data.toList[1304]? = some 46 := zt_20 24 1304 46 rfl rfl
theorem zy_1305 : code.data.toList[1305]? = some 42 := zt_20 25 1305 42 rfl rfl
theorem zy_1306 : code.data.toList[1306]? = some 21 := zt_20 26 1306 21 rfl rfl
theorem zy_1307 : code.data.toList[1307]? = some 4 := zt_20 27 1307 4 rfl rfl
theorem zy_1308 : code.data.toList[1308]? = some 8 := zt_20 28 1308 8 rfl rfl
theorem zy_1309 : code.data.toList[1309]? = some 96 := zt_20 29 1309 96 rfl rfl
theorem zy_1310 : code.data.toList[1310]? = some 46 := zt_20 30 1310 46 rfl rfl
theorem zy_1311 : code.data.toList[1311]? = some 42 := zt_20 31 1311 42 rfl rfl
theorem zy_1312 : code.data.toList[1312]? = some 21 := zt_20 32 1312 21 rfl rfl
theorem zy_1313 : code.data.toList[1313]? = some 4 := zt_20 33 1313 4 rfl rfl
theorem zy_1316 : code.data.toList[1316]? = some 96 := zt_20 36 1316 96 rfl rfl
theorem zy_1317 : code.data.toList[1317]? = some 46 := zt_20 37 1317 46 rfl rfl
theorem zy_1318 : code.data.toList[1318]? = some 182 := zt_20 38 1318 182 rfl rfl
theorem zy_1319 : code.data.toList[1319]? = some 0 := zt_20 39 1319 0 rfl rfl
theorem zy_1320 : code.data.toList[1320]? = some 157 := zt_20 40 1320 157 rfl rfl
theorem zy_1321 : code.data.toList[1321]? = some 87 := zt_20 41 1321 87 rfl rfl
theorem zy_1325 : code.data.toList[1325]? = some 43 := zt_20 45 1325 43 rfl rfl
theorem zy_1326 : code.data.toList[1326]? = some 42 := zt_20 46 1326 42 rfl rfl
theorem zy_1327 : code.data.toList[1327]? = some 21 := zt_20 47 1327 21 rfl rfl
theorem zy_1328 : code.data.toList[1328]? = some 4 := zt_20 48 1328 4 rfl rfl
theorem zy_1329 : code.data.toList[1329]? = some 4 := zt_20 49 1329 4 rfl rfl
theorem zy_1330 : code.data.toList[1330]? = some 96 := zt_20 50 1330 96 rfl rfl
theorem zy_1331 : code.data.toList[1331]? = some 46 := zt_20 51 1331 46 rfl rfl
theorem zy_1332 : code.data.toList[1332]? = some 42 := zt_20 52 1332 42 rfl rfl
theorem zy_1333 : code.data.toList[1333]? = some 21 := zt_20 53 1333 21 rfl rfl
theorem zy_1334 : code.data.toList[1334]? = some 4 := zt_20 54 1334 4 rfl rfl
theorem zy_1335 : code.data.toList[1335]? = some 5 := zt_20 55 1335 5 rfl rfl
theorem zy_1336 : code.data.toList[1336]? = some 96 := zt_20 56 1336 96 rfl rfl
theorem zy_1337 : code.data.toList[1337]? = some 46 := zt_20 57 1337 46 rfl rfl
theorem zy_1338 : code.data.toList[1338]? = some 42 := zt_20 58 1338 42 rfl rfl
theorem zy_1339 : code.data.toList[1339]? = some 21 := zt_20 59 1339 21 rfl rfl
theorem zy_1340 : code.data.toList[1340]? = some 4 := zt_20 60 1340 4 rfl rfl
theorem zy_1341 : code.data.toList[1341]? = some 6 := zt_20 61 1341 6 rfl rfl
theorem zy_1342 : code.data.toList[1342]? = some 96 := zt_20 62 1342 96 rfl rfl
theorem zy_1343 : code.data.toList[1343]? = some 46 := zt_20 63 1343 46 rfl rfl
theorem zy_1344 : code.data.toList[1344]? = some 42 := zt_21 0 1344 42 rfl rfl
theorem zy_1345 : code.data.toList[1345]? = some 21 := zt_21 1 1345 21 rfl rfl
theorem zy_1346 : code.data.toList[1346]? = some 4 := zt_21 2 1346 4 rfl rfl
theorem zy_1347 : code.data.toList[1347]? = some 7 := zt_21 3 1347 7 rfl rfl
theorem zy_1348 : code.data.toList[1348]? = some 96 := zt_21 4 1348 96 rfl rfl
theorem zy_1349 : code.data.toList[1349]? = some 46 := zt_21 5 1349 46 rfl rfl
theorem zy_1350 : code.data.toList[1350]? = some 182 := zt_21 6 1350 182 rfl rfl
theorem zy_1351 : code.data.toList[1351]? = some 0 := zt_21 7 1351 0 rfl rfl
theorem zy_1352 : code.data.toList[1352]? = some 158 := zt_21 8 1352 158 rfl rfl
theorem zy_1353 : code.data.toList[1353]? = some 87 := zt_21 9 1353 87 rfl rfl
theorem zy_1354 : code.data.toList[1354]? = some 44 := zt_21 10 1354 44 rfl rfl
theorem zy_1355 : code.data.toList[1355]? = some 42 := zt_21 11 1355 42 rfl rfl
theorem zy_1356 : code.data.toList[1356]? = some 21 := zt_21 12 1356 21 rfl rfl
theorem zy_1357 : code.data.toList[1357]? = some 4 := zt_21 13 1357 4 rfl rfl
theorem zy_1358 : code.data.toList[1358]? = some 4 := zt_21 14 1358 4 rfl rfl
theorem zy_1359 : code.data.toList[1359]? = some 96 := zt_21 15 1359 96 rfl rfl
theorem zy_1360 : code.data.toList[1360]? = some 46 := zt_21 16 1360 46 rfl rfl
theorem zy_1361 : code.data.toList[1361]? = some 42 := zt_21 17 1361 42 rfl rfl
theorem zy_1362 : code.data.toList[1362]? = some 21 := zt_21 18 1362 21 rfl rfl
theorem zy_1363 : code.data.toList[1363]? = some 4 := zt_21 19 1363 4 rfl rfl
theorem zy_1364 : code.data.toList[1364]? = some 5 := zt_21 20 1364 5 rfl rfl
theorem zy_1365 : code.data.toList[1365]? = some 96 := zt_21 21 1365 96 rfl rfl
theorem zy_1366 : code.data.toList[1366]? = some 46 := zt_21 22 1366 46 rfl rfl
theorem zy_1367 : code.data.toList[1367]? = some 42 := zt_21 23 1367 42 rfl rfl
theorem zy_1368 : code.data.toList[1368]? = some 21 := zt_21 24 1368 21 rfl rfl
theorem zy_1369 : code.data.toList[1369]? = some 4 := zt_21 25 1369 4 rfl rfl
theorem zy_1370 : code.data.toList[1370]? = some 6 := zt_21 26 1370 6 rfl rfl
theorem zy_1371 : code.data.toList[1371]? = some 96 := zt_21 27 1371 96 rfl rfl
theorem zy_1372 : code.data.toList[1372]? = some 46 := zt_21 28 1372 46 rfl rfl
theorem zy_1373 : code.data.toList[1373]? = some 42 := zt_21 29 1373 42 rfl rfl
theorem zy_1374 : code.data.toList[1374]? = some 21 := zt_21 30 1374 21 rfl rfl
theorem zy_1375 : code.data.toList[1375]? = some 4 := zt_21 31 1375 4 rfl rfl
theorem zy_1376 : code.data.toList[1376]? = some 7 := zt_21 32 1376 7 rfl rfl
theorem zy_1377 : code.data.toList[1377]? = some 96 := zt_21 33 1377 96 rfl rfl
theorem zy_1378 : code.data.toList[1378]? = some 46 := zt_21 34 1378 46 rfl rfl
theorem zy_1379 : code.data.toList[1379]? = some 182 := zt_21 35 1379 182 rfl rfl
theorem zy_1380 : code.data.toList[1380]? = some 0 := zt_21 36 1380 0 rfl rfl
theorem zy_1381 : code.data.toList[1381]? = some 162 := zt_21 37 1381 162 rfl rfl
theorem zy_1382 : code.data.toList[1382]? = some 87 := zt_21 38 1382 87 rfl rfl
theorem zy_1386 : code.data.toList[1386]? = some 43 := zt_21 42 1386 43 rfl rfl
theorem zy_1387 : code.data.toList[1387]? = some 42 := zt_21 43 1387 42 rfl rfl
theorem zy_1388 : code.data.toList[1388]? = some 21 := zt_21 44 1388 21 rfl rfl
theorem zy_1389 : code.data.toList[1389]? = some 4 := zt_21 45 1389 4 rfl rfl
theorem zy_1390 : code.data.toList[1390]? = some 4 := zt_21 46 1390 4 rfl rfl
theorem zy_1391 : code.data.toList[1391]? = some 96 := zt_21 47 1391 96 rfl rfl
theorem zy_1392 : code.data.toList[1392]? = some 46 := zt_21 48 1392 46 rfl rfl
theorem zy_1393 : code.data.toList[1393]? = some 42 := zt_21 49 1393 42 rfl rfl
theorem zy_1394 : code.data.toList[1394]? = some 21 := zt_21 50 1394 21 rfl rfl
theorem zy_1395 : code.data.toList[1395]? = some 4 := zt_21 51 1395 4 rfl rfl
theorem zy_1396 : code.data.toList[1396]? = some 5 := zt_21 52 1396 5 rfl rfl
theorem zy_1397 : code.data.toList[1397]? = some 96 := zt_21 53 1397 96 rfl rfl
theorem zy_1398 : code.data.toList[1398]? = some 46 := zt_21 54 1398 46 rfl rfl
theorem zy_1399 : code.data.toList[1399]? = some 182 := zt_21 55 1399 182 rfl rfl
theorem zy_1400 : code.data.toList[1400]? = some 0 := zt_21 56 1400 0 rfl rfl
theorem zy_1401 : code.data.toList[1401]? = some 163 := zt_21 57 1401 163 rfl rfl
theorem zy_1402 : code.data.toList[1402]? = some 87 := zt_21 58 1402 87 rfl rfl
theorem zy_1403 : code.data.toList[1403]? = some 44 := zt_21 59 1403 44 rfl rfl
theorem zy_1404 : code.data.toList[1404]? = some 42 := zt_21 60 1404 42 rfl rfl
theorem zy_1405 : code.data.toList[1405]? = some 21 := zt_21 61 1405 21 rfl rfl
theorem zy_1406 : code.data.toList[1406]? = some 4 := zt_21 62 1406 4 rfl rfl
theorem zy_1407 : code.data.toList[1407]? = some 4 := zt_21 63 1407 4 rfl rfl
theorem zy_1408 : code.data.toList[1408]? = some 96 := zt_22 0 1408 96 rfl rfl
theorem zy_1409 : code.data.toList[1409]? = some 46 := zt_22 1 1409 46 rfl rfl
theorem zy_1410 : code.data.toList[1410]? = some 42 := zt_22 2 1410 42 rfl rfl
theorem zy_1411 : code.data.toList[1411]? = some 21 := zt_22 3 1411 21 rfl rfl
theorem zy_1412 : code.data.toList[1412]? = some 4 := zt_22 4 1412 4 rfl rfl
theorem zy_1413 : code.data.toList[1413]? = some 5 := zt_22 5 1413 5 rfl rfl
theorem zy_1414 : code.data.toList[1414]? = some 96 := zt_22 6 1414 96 rfl rfl
theorem zy_1415 : code.data.toList[1415]? = some 46 := zt_22 7 1415 46 rfl rfl
theorem zy_1416 : code.data.toList[1416]? = some 182 := zt_22 8 1416 182 rfl rfl
theorem zy_1417 : code.data.toList[1417]? = some 0 := zt_22 9 1417 0 rfl rfl
theorem zy_1418 : code.data.toList[1418]? = some 166 := zt_22 10 1418 166 rfl rfl
theorem zy_1419 : code.data.toList[1419]? = some 87 := zt_22 11 1419 87 rfl rfl
theorem zy_1423 : code.data.toList[1423]? = some 43 := zt_22 15 1423 43 rfl rfl
theorem zy_1424 : code.data.toList[1424]? = some 42 := zt_22 16 1424 42 rfl rfl
theorem zy_1425 : code.data.toList[1425]? = some 21 := zt_22 17 1425 21 rfl rfl
theorem zy_1426 : code.data.toList[1426]? = some 4 := zt_22 18 1426 4 rfl rfl
theorem zy_1427 : code.data.toList[1427]? = some 4 := zt_22 19 1427 4 rfl rfl
theorem zy_1428 : code.data.toList[1428]? = some 96 := zt_22 20 1428 96 rfl rfl
theorem zy_1429 : code.data.toList[1429]? = some 46 := zt_22 21 1429 46 rfl rfl
theorem zy_1430 : code.data.toList[1430]? = some 42 := zt_22 22 1430 42 rfl rfl
theorem zy_1431 : code.data.toList[1431]? = some 21 := zt_22 23 1431 21 rfl rfl
theorem zy_1432 : code.data.toList[1432]? = some 4 := zt_22 24 1432 4 rfl rfl
theorem zy_1433 : code.data.toList[1433]? = some 5 := zt_22 25 1433 5 rfl rfl
theorem zy_1434 : code.data.toList[1434]? = some 96 := zt_22 26 1434 96 rfl rfl
theorem zy_1435 : code.data.toList[1435]? = some 46 := zt_22 27 1435 46 rfl rfl
theorem zy_1436 : code.data.toList[1436]? = some 182 := zt_22 28 1436 182 rfl rfl
theorem zy_1437 : code.data.toList[1437]? = some 0 := zt_22 29 1437 0 rfl rfl
theorem zy_1438 : code.data.toList[1438]? = some 167 := zt_22 30 1438 167 rfl rfl
theorem zy_1439 : code.data.toList[1439]? = some 87 := zt_22 31 1439 87 rfl rfl
theorem zy_1440 : code.data.toList[1440]? = some 44 := zt_22 32 1440 44 rfl rfl
theorem zy_1441 : code.data.toList[1441]? = some 42 := zt_22 33 1441 42 rfl rfl
theorem zy_1442 : code.data.toList[1442]? = some 21 := zt_22 34 1442 21 rfl rfl
theorem zy_1443 : code.data.toList[1443]? = some 4 := zt_22 35 1443 4 rfl rfl
theorem zy_1444 : code.data.toList[1444]? = some 4 := zt_22 36 1444 4 rfl rfl
theorem zy_1445 : code.data.toList[1445]? = some 96 := zt_22 37 1445 96 rfl rfl
theorem zy_1446 : code.data.toList[1446]? = some 46 := zt_22 38 1446 46 rfl rfl
theorem zy_1447 : code.data.toList[1447]? = some 42 := zt_22 39 1447 42 rfl rfl
theorem zy_1448 : code.data.toList[1448]? = some 21 := zt_22 40 1448 21 rfl rfl
theorem zy_1449 : code.data.toList[1449]? = some 4 := zt_22 41 1449 4 rfl rfl
theorem zy_1450 : code.data.toList[1450]? = some 5 := zt_22 42 1450 5 rfl rfl
theorem zy_1451 : code.data.toList[1451]? = some 96 := zt_22 43 1451 96 rfl rfl
theorem zy_1452 : code.data.toList[1452]? = some 46 := zt_22 44 1452 46 rfl rfl
theorem zy_1453 : code.data.toList[1453]? = some 182 := zt_22 45 1453 182 rfl rfl
theorem zy_1454 : code.data.toList[1454]? = some 0 := zt_22 46 1454 0 rfl rfl
theorem zy_1455 : code.data.toList[1455]? = some 170 := zt_22 47 1455 170 rfl rfl
theorem zy_1456 : code.data.toList[1456]? = some 87 := zt_22 48 1456 87 rfl rfl
theorem zy_1460 : code.data.toList[1460]? = some 43 := zt_22 52 1460 43 rfl rfl
theorem zy_1461 : code.data.toList[1461]? = some 42 := zt_22 53 1461 42 rfl rfl
theorem zy_1462 : code.data.toList[1462]? = some 21 := zt_22 54 1462 21 rfl rfl
theorem zy_1463 : code.data.toList[1463]? = some 4 := zt_22 55 1463 4 rfl rfl
theorem zy_1464 : code.data.toList[1464]? = some 4 := zt_22 56 1464 4 rfl rfl
theorem zy_1465 : code.data.toList[1465]? = some 96 := zt_22 57 1465 96 rfl rfl
theorem zy_1466 : code.data.toList[1466]? = some 46 := zt_22 58 1466 46 rfl rfl
theorem zy_1467 : code.data.toList[1467]? = some 182 := zt_22 59 1467 182 rfl rfl
theorem zy_1468 : code.data.toList[1468]? = some 0 := zt_22 60 1468 0 rfl rfl
theorem zy_1469 : code.data.toList[1469]? = some 171 := zt_22 61 1469 171 rfl rfl
theorem zy_1470 : code.data.toList[1470]? = some 87 := zt_22 62 1470 87 rfl rfl
theorem zy_1471 : code.data.toList[1471]? = some 44 := zt_22 63 1471 44 rfl rfl
theorem zy_1472 : code.data.toList[1472]? = some 42 := zt_23 0 1472 42 rfl rfl
theorem zy_1473 : code.data.toList[1473]? = some 21 := zt_23 1 1473 21 rfl rfl
theorem zy_1474 : code.data.toList[1474]? = some 4 := zt_23 2 1474 4 rfl rfl
theorem zy_1475 : code.data.toList[1475]? = some 4 := zt_23 3 1475 4 rfl rfl
theorem zy_1476 : code.data.toList[1476]? = some 96 := zt_23 4 1476 96 rfl rfl
theorem zy_1477 : code.data.toList[1477]? = some 46 := zt_23 5 1477 46 rfl rfl
theorem zy_1478 : code.data.toList[1478]? = some 182 := zt_23 6 1478 182 rfl rfl
theorem zy_1479 : code.data.toList[1479]? = some 0 := zt_23 7 1479 0 rfl rfl
theorem zy_1480 : code.data.toList[1480]? = some 174 := zt_23 8 1480 174 rfl rfl
theorem zy_1481 : code.data.toList[1481]? = some 87 := zt_23 9 1481 87 rfl rfl
theorem zy_1485 : code.data.toList[1485]? = some 43 := zt_23 13 1485 43 rfl rfl
theorem zy_1486 : code.data.toList[1486]? = some 42 := zt_23 14 1486 42 rfl rfl
theorem zy_1487 : code.data.toList[1487]? = some 21 := zt_23 15 1487 21 rfl rfl
theorem zy_1488 : code.data.toList[1488]? = some 4 := zt_23 16 1488 4 rfl rfl
theorem zy_1489 : code.data.toList[1489]? = some 4 := zt_23 17 1489 4 rfl rfl
theorem zy_1490 : code.data.toList[1490]? = some 96 := zt_23 18 1490 96 rfl rfl
theorem zy_1491 : code.data.toList[1491]? = some 46 := zt_23 19 1491 46 rfl rfl
theorem zy_1492 : code.data.toList[1492]? = some 42 := zt_23 20 1492 42 rfl rfl
theorem zy_1493 : code.data.toList[1493]? = some 21 := zt_23 21 1493 21 rfl rfl
theorem zy_1494 : code.data.toList[1494]? = some 4 := zt_23 22 1494 4 rfl rfl
theorem zy_1495 : code.data.toList[1495]? = some 5 := zt_23 23 1495 5 rfl rfl
theorem zy_1496 : code.data.toList[1496]? = some 96 := zt_23 24 1496 96 rfl rfl
theorem zy_1497 : code.data.toList[1497]? = some 46 := zt_23 25 1497 46 rfl rfl
theorem zy_1498 : code.data.toList[1498]? = some 182 := zt_23 26 1498 182 rfl rfl
theorem zy_1499 : code.data.toList[1499]? = some 0 := zt_23 27 1499 0 rfl rfl
theorem zy_1500 : code.data.toList[1500]? = some 175 := zt_23 28 1500 175 rfl rfl
theorem zy_1501 : code.data.toList[1501]? = some 87 := zt_23 29 1501 87 rfl rfl
theorem zy_1502 : code.data.toList[1502]? = some 44 := zt_23 30 1502 44 rfl rfl
theorem zy_1503 : code.data.toList[1503]? = some 42 := zt_23 31 1503 42 rfl rfl
theorem zy_1504 : code.data.toList[1504]? = some 21 := zt_23 32 1504 21 rfl rfl
theorem zy_1505 : code.data.toList[1505]? = some 4 := zt_23 33 1505 4 rfl rfl
theorem zy_1506 : code.data.toList[1506]? = some 4 := zt_23 34 1506 4 rfl rfl
theorem zy_1507 : code.data.toList[1507]? = some 96 := zt_23 35 1507 96 rfl rfl
theorem zy_1508 : code.data.toList[1508]? = some 46 := zt_23 36 1508 46 rfl rfl
theorem zy_1509 : code.data.toList[1509]? = some 42 := zt_23 37 1509 42 rfl rfl
theorem zy_1510 : code.data.toList[1510]? = some 21 := zt_23 38 1510 21 rfl rfl
theorem zy_1511 : code.data.toList[1511]? = some 4 := zt_23 39 1511 4 rfl rfl
theorem zy_1512 : code.data.toList[1512]? = some 5 := zt_23 40 1512 5 rfl rfl
theorem zy_1513 : code.data.toList[1513]? = some 96 := zt_23 41 1513 96 rfl rfl
theorem zy_1514 : code.data.toList[1514]? = some 46 := zt_23 42 1514 46 rfl rfl
theorem zy_1515 : code.data.toList[1515]? = some 182 := zt_23 43 1515 182 rfl rfl
theorem zy_1516 : code.data.toList[1516]? = some 0 := zt_23 44 1516 0 rfl rfl
theorem zy_1517 : code.data.toList[1517]? = some 178 := zt_23 45 1517 178 rfl rfl
theorem zy_1518 : code.data.toList[1518]? = some 87 := zt_23 46 1518 87 rfl rfl
theorem zy_1522 : code.data.toList[1522]? = some 43 := zt_23 50 1522 43 rfl rfl
theorem zy_1523 : code.data.toList[1523]? = some 42 := zt_23 51 1523 42 rfl rfl
theorem zy_1524 : code.data.toList[1524]? = some 21 := zt_23 52 1524 21 rfl rfl
theorem zy_1525 : code.data.toList[1525]? = some 4 := zt_23 53 1525 4 rfl rfl
theorem zy_1526 : code.data.toList[1526]? = some 4 := zt_23 54 1526 4 rfl rfl
theorem zy_1527 : code.data.toList[1527]? = some 96 := zt_23 55 1527 96 rfl rfl
theorem zy_1528 : code.data.toList[1528]? = some 46 := zt_23 56 1528 46 rfl rfl
theorem zy_1529 : code.data.toList[1529]? = some 42 := zt_23 57 1529 42 rfl rfl
theorem zy_1530 : code.data.toList[1530]? = some 21 := zt_23 58 1530 21 rfl rfl
theorem zy_1531 : code.data.toList[1531]? = some 4 := zt_23 59 1531 4 rfl rfl
theorem zy_1532 : code.data.toList[1532]? = some 5 := zt_23 60 1532 5 rfl rfl
theorem zy_1533 : code.data.toList[1533]? = some 96 := zt_23 61 1533 96 rfl rfl
theorem zy_1534 : code.data.toList[1534]? = some 46 := zt_23 62 1534 46 rfl rfl
theorem zy_1535 : code.data.toList[1535]? = some 42 := zt_23 63 1535 42 rfl rfl
theorem zy_1536 : code.data.toList[1536]? = some 21 := zt_24 0 1536 21 rfl rfl
theorem zy_1537 : code.data.toList[1537]? = some 4 := zt_24 1 1537 4 rfl rfl
theorem zy_1538 : code.data.toList[1538]? = some 6 := zt_24 2 1538 6 rfl rfl
theorem zy_1539 : code.data.toList[1539]? = some 96 := zt_24 3 1539 96 rfl rfl
theorem zy_1540 : code.data.toList[1540]? = some 46 := zt_24 4 1540 46 rfl rfl
theorem zy_1541 : code.data.toList[1541]? = some 182 := zt_24 5 1541 182 rfl rfl
theorem zy_1542 : code.data.toList[1542]? = some 0 := zt_24 6 1542 0 rfl rfl
theorem zy_1543 : code.data.toList[1543]? = some 179 := zt_24 7 1543 179 rfl rfl
theorem zy_1544 : code.data.toList[1544]? = some 87 := zt_24 8 1544 87 rfl rfl
theorem zy_1545 : code.data.toList[1545]? = some 44 := zt_24 9 1545 44 rfl rfl
theorem zy_1546 : code.data.toList[1546]? = some 42 := zt_24 10 1546 42 rfl rfl
theorem zy_1547 : code.data.toList[1547]? = some 21 := zt_24 11 1547 21 rfl rfl
theorem zy_1548 : code.data.toList[1548]? = some 4 := zt_24 12 1548 4 rfl rfl
theorem zy_1549 : code.data.toList[1549]? = some 4 := zt_24 13 1549 4 rfl rfl
theorem zy_1550 : code.data.toList[1550]? = some 96 := zt_24 14 1550 96 rfl rfl
theorem zy_1551 : code.data.toList[1551]? = some 46 := zt_24 15 1551 46 rfl rfl
theorem zy_1552 : code.data.toList[1552]? = some 42 := zt_24 16 1552 42 rfl rfl
theorem zy_1553 : code.data.toList[1553]? = some 21 := zt_24 17 1553 21 rfl rfl
theorem zy_1554 : code.data.toList[1554]? = some 4 := zt_24 18 1554 4 rfl rfl
theorem zy_1555 : code.data.toList[1555]? = some 5 := zt_24 19 1555 5 rfl rfl
theorem zy_1556 : code.data.toList[1556]? = some 96 := zt_24 20 1556 96 rfl rfl
theorem zy_1557 : code.data.toList[1557]? = some 46 := zt_24 21 1557 46 rfl rfl
theorem zy_1558 : code.data.toList[1558]? = some 42 := zt_24 22 1558 42 rfl rfl
theorem zy_1559 : code.data.toList[1559]? = some 21 := zt_24 23 1559 21 rfl rfl
theorem zy_1560 : code.data.toList[1560]? = some 4 := zt_24 24 1560 4 rfl rfl
theorem zy_1561 : code.data.toList[1561]? = some 6 := zt_24 25 1561 6 rfl rfl
theorem zy_1562 : code.data.toList[1562]? = some 96 := zt_24 26 1562 96 rfl rfl
theorem zy_1563 : code.data.toList[1563]? = some 46 := zt_24 27 1563 46 rfl rfl
theorem zy_1564 : code.data.toList[1564]? = some 182 := zt_24 28 1564 182 rfl rfl
theorem zy_1565 : code.data.toList[1565]? = some 0 := zt_24 29 1565 0 rfl rfl
theorem zy_1566 : code.data.toList[1566]? = some 182 := zt_24 30 1566 182 rfl rfl
theorem zy_1567 : code.data.toList[1567]? = some 87 := zt_24 31 1567 87 rfl rfl
theorem zy_1571 : code.data.toList[1571]? = some 43 := zt_24 35 1571 43 rfl rfl
theorem zy_1572 : code.data.toList[1572]? = some 42 := zt_24 36 1572 42 rfl rfl
theorem zy_1573 : code.data.toList[1573]? = some 21 := zt_24 37 1573 21 rfl rfl
theorem zy_1574 : code.data.toList[1574]? = some 4 := zt_24 38 1574 4 rfl rfl
theorem zy_1575 : code.data.toList[1575]? = some 4 := zt_24 39 1575 4 rfl rfl
theorem zy_1576 : code.data.toList[1576]? = some 96 := zt_24 40 1576 96 rfl rfl
theorem zy_1577 : code.data.toList[1577]? = some 46 := zt_24 41 1577 46 rfl rfl
theorem zy_1578 : code.data.toList[1578]? = some 182 := zt_24 42 1578 182 rfl rfl
theorem zy_1579 : code.data.toList[1579]? = some 0 := zt_24 43 1579 0 rfl rfl
theorem zy_1580 : code.data.toList[1580]? = some 183 := zt_24 44 1580 183 rfl rfl
theorem zy_1581 : code.data.toList[1581]? = some 87 := zt_24 45 1581 87 rfl rfl
theorem zy_1582 : code.data.toList[1582]? = some 44 := zt_24 46 1582 44 rfl rfl
theorem zy_1583 : code.data.toList[1583]? = some 42 := zt_24 47 1583 42 rfl rfl
theorem zy_1584 : code.data.toList[1584]? = some 21 := zt_24 48 1584 21 rfl rfl
theorem zy_1585 : code.data.toList[1585]? = some 4 := zt_24 49 1585 4 rfl rfl
theorem zy_1586 : code.data.toList[1586]? = some 4 := zt_24 50 1586 4 rfl rfl
theorem zy_1587 : code.data.toList[1587]? = some 96 := zt_24 51 1587 96 rfl rfl
theorem zy_1588 : code.data.toList[1588]? = some 46 := zt_24 52 1588 46 rfl rfl
theorem zy_1589 : code.data.toList[1589]? = some 182 := zt_24 53 1589 182 rfl rfl
theorem zy_1590 : code.data.toList[1590]? = some 0 := zt_24 54 1590 0 rfl rfl
theorem zy_1591 : code.data.toList[1591]? = some 186 := zt_24 55 1591 186 rfl rfl
theorem zy_1592 : code.data.toList[1592]? = some 87 := zt_24 56 1592 87 rfl rfl
theorem zy_1596 : code.data.toList[1596]? = some 43 := zt_24 60 1596 43 rfl rfl
theorem zy_1597 : code.data.toList[1597]? = some 42 := zt_24 61 1597 42 rfl rfl
theorem zy_1598 : code.data.toList[1598]? = some 21 := zt_24 62 1598 21 rfl rfl
theorem zy_1599 : code.data.toList[1599]? = some 4 := zt_24 63 1599 4 rfl rfl
theorem zy_1600 : code.data.toList[1600]? = some 4 := zt_25 0 1600 4 rfl rfl
theorem zy_1601 : code.data.toList[1601]? = some 96 := zt_25 1 1601 96 rfl rfl
theorem zy_1602 : code.data.toList[1602]? = some 46 := zt_25 2 1602 46 rfl rfl
theorem zy_1603 : code.data.toList[1603]? = some 182 := zt_25 3 1603 182 rfl rfl
theorem zy_1604 : code.data.toList[1604]? = some 0 := zt_25 4 1604 0 rfl rfl
theorem zy_1605 : code.data.toList[1605]? = some 187 := zt_25 5 1605 187 rfl rfl
theorem zy_1606 : code.data.toList[1606]? = some 87 := zt_25 6 1606 87 rfl rfl
theorem zy_1607 : code.data.toList[1607]? = some 44 := zt_25 7 1607 44 rfl rfl
theorem zy_1608 : code.data.toList[1608]? = some 42 := zt_25 8 1608 42 rfl rfl
theorem zy_1609 : code.data.toList[1609]? = some 21 := zt_25 9 1609 21 rfl rfl
theorem zy_1610 : code.data.toList[1610]? = some 4 := zt_25 10 1610 4 rfl rfl
theorem zy_1611 : code.data.toList[1611]? = some 4 := zt_25 11 1611 4 rfl rfl
theorem zy_1612 : code.data.toList[1612]? = some 96 := zt_25 12 1612 96 rfl rfl
theorem zy_1613 : code.data.toList[1613]? = some 46 := zt_25 13 1613 46 rfl rfl
theorem zy_1614 : code.data.toList[1614]? = some 182 := zt_25 14 1614 182 rfl rfl
theorem zy_1615 : code.data.toList[1615]? = some 0 := zt_25 15 1615 0 rfl rfl
theorem zy_1616 : code.data.toList[1616]? = some 190 := zt_25 16 1616 190 rfl rfl
theorem zy_1617 : code.data.toList[1617]? = some 87 := zt_25 17 1617 87 rfl rfl
theorem zy_1621 : code.data.toList[1621]? = some 43 := zt_25 21 1621 43 rfl rfl
theorem zy_1622 : code.data.toList[1622]? = some 42 := zt_25 22 1622 42 rfl rfl
theorem zy_1623 : code.data.toList[1623]? = some 21 := zt_25 23 1623 21 rfl rfl
theorem zy_1624 : code.data.toList[1624]? = some 4 := zt_25 24 1624 4 rfl rfl
theorem zy_1625 : code.data.toList[1625]? = some 4 := zt_25 25 1625 4 rfl rfl
theorem zy_1626 : code.data.toList[1626]? = some 96 := zt_25 26 1626 96 rfl rfl
theorem zy_1627 : code.data.toList[1627]? = some 46 := zt_25 27 1627 46 rfl rfl
theorem zy_1628 : code.data.toList[1628]? = some 182 := zt_25 28 1628 182 rfl rfl
theorem zy_1629 : code.data.toList[1629]? = some 0 := zt_25 29 1629 0 rfl rfl
theorem zy_1630 : code.data.toList[1630]? = some 191 := zt_25 30 1630 191 rfl rfl
theorem zy_1631 : code.data.toList[1631]? = some 87 := zt_25 31 1631 87 rfl rfl
theorem zy_1632 : code.data.toList[1632]? = some 44 := zt_25 32 1632 44 rfl rfl
theorem zy_1633 : code.data.toList[1633]? = some 42 := zt_25 33 1633 42 rfl rfl
theorem zy_1634 : code.data.toList[1634]? = some 21 := zt_25 34 1634 21 rfl rfl
theorem zy_1635 : code.data.toList[1635]? = some 4 := zt_25 35 1635 4 rfl rfl
theorem zy_1636 : code.data.toList[1636]? = some 4 := zt_25 36 1636 4 rfl rfl
theorem zy_1637 : code.data.toList[1637]? = some 96 := zt_25 37 1637 96 rfl rfl
theorem zy_1638 : code.data.toList[1638]? = some 46 := zt_25 38 1638 46 rfl rfl
theorem zy_1639 : code.data.toList[1639]? = some 182 := zt_25 39 1639 182 rfl rfl
theorem zy_1640 : code.data.toList[1640]? = some 0 := zt_25 40 1640 0 rfl rfl
theorem zy_1641 : code.data.toList[1641]? = some 194 := zt_25 41 1641 194 rfl rfl
theorem zy_1642 : code.data.toList[1642]? = some 87 := zt_25 42 1642 87 rfl rfl
theorem zy_1646 : code.data.toList[1646]? = some 43 := zt_25 46 1646 43 rfl rfl
theorem zy_1647 : code.data.toList[1647]? = some 42 := zt_25 47 1647 42 rfl rfl
theorem zy_1648 : code.data.toList[1648]? = some 21 := zt_25 48 1648 21 rfl rfl
theorem zy_1649 : code.data.toList[1649]? = some 4 := zt_25 49 1649 4 rfl rfl
theorem zy_1650 : code.data.toList[1650]? = some 4 := zt_25 50 1650 4 rfl rfl
theorem zy_1651 : code.data.toList[1651]? = some 96 := zt_25 51 1651 96 rfl rfl
theorem zy_1652 : code.data.toList[1652]? = some 46 := zt_25 52 1652 46 rfl rfl
theorem zy_1653 : code.data.toList[1653]? = some 182 := zt_25 53 1653 182 rfl rfl
theorem zy_1654 : code.data.toList[1654]? = some 0 := zt_25 54 1654 0 rfl rfl
theorem zy_1655 : code.data.toList[1655]? = some 195 := zt_25 55 1655 195 rfl rfl
theorem zy_1656 : code.data.toList[1656]? = some 87 := zt_25 56 1656 87 rfl rfl
theorem zy_1657 : code.data.toList[1657]? = some 44 := zt_25 57 1657 44 rfl rfl
theorem zy_1658 : code.data.toList[1658]? = some 42 := zt_25 58 1658 42 rfl rfl
theorem zy_1659 : code.data.toList[1659]? = some 21 := zt_25 59 1659 21 rfl rfl
theorem zy_1660 : code.data.toList[1660]? = some 4 := zt_25 60 1660 4 rfl rfl
theorem zy_1661 : code.data.toList[1661]? = some 4 := zt_25 61 1661 4 rfl rfl
theorem zy_1662 : code.data.toList[1662]? = some 96 := zt_25 62 1662 96 rfl rfl
theorem zy_1663 : code.data.toList[1663]? = some 46 := zt_25 63 1663 46 rfl rfl
theorem zy_1664 : code.data.toList[1664]? = some 182 := zt_26 0 1664 182 rfl rfl
theorem zy_1665 : code.data.toList[1665]? = some 0 := zt_26 1 1665 0 rfl rfl
theorem zy_1666 : code.data.toList[1666]? = some 198 := zt_26 2 1666 198 rfl rfl
theorem zy_1667 : code.data.toList[1667]? = some 87 := zt_26 3 1667 87 rfl rfl
theorem zy_1671 : code.data.toList[1671]? = some 43 := zt_26 7 1671 43 rfl rfl
theorem zy_1672 : code.data.toList[1672]? = some 42 := zt_26 8 1672 42 rfl rfl
theorem zy_1673 : code.data.toList[1673]? = some 21 := zt_26 9 1673 21 rfl rfl
theorem zy_1674 : code.data.toList[1674]? = some 4 := zt_26 10 1674 4 rfl rfl
theorem zy_1675 : code.data.toList[1675]? = some 4 := zt_26 11 1675 4 rfl rfl
theorem zy_1676 : code.data.toList[1676]? = some 96 := zt_26 12 1676 96 rfl rfl
theorem zy_1677 : code.data.toList[1677]? = some 46 := zt_26 13 1677 46 rfl rfl
theorem zy_1678 : code.data.toList[1678]? = some 182 := zt_26 14 1678 182 rfl rfl
theorem zy_1679 : code.data.toList[1679]? = some 0 := zt_26 15 1679 0 rfl rfl
theorem zy_1680 : code.data.toList[1680]? = some 199 := zt_26 16 1680 199 rfl rfl
theorem zy_1681 : code.data.toList[1681]? = some 87 := zt_26 17 1681 87 rfl rfl
theorem zy_1682 : code.data.toList[1682]? = some 44 := zt_26 18 1682 44 rfl rfl
theorem zy_1683 : code.data.toList[1683]? = some 42 := zt_26 19 1683 42 rfl rfl
theorem zy_1684 : code.data.toList[1684]? = some 21 := zt_26 20 1684 21 rfl rfl
theorem zy_1685 : code.data.toList[1685]? = some 4 := zt_26 21 1685 4 rfl rfl
theorem zy_1686 : code.data.toList[1686]? = some 4 := zt_26 22 1686 4 rfl rfl
theorem zy_1687 : code.data.toList[1687]? = some 96 := zt_26 23 1687 96 rfl rfl
theorem zy_1688 : code.data.toList[1688]? = some 46 := zt_26 24 1688 46 rfl rfl
theorem zy_1689 : code.data.toList[1689]? = some 182 := zt_26 25 1689 182 rfl rfl
theorem zy_1690 : code.data.toList[1690]? = some 0 := zt_26 26 1690 0 rfl rfl
theorem zy_1691 : code.data.toList[1691]? = some 202 := zt_26 27 1691 202 rfl rfl
theorem zy_1692 : code.data.toList[1692]? = some 87 := zt_26 28 1692 87 rfl rfl
theorem zy_1696 : code.data.toList[1696]? = some 43 := zt_26 32 1696 43 rfl rfl
theorem zy_1697 : code.data.toList[1697]? = some 42 := zt_26 33 1697 42 rfl rfl
theorem zy_1698 : code.data.toList[1698]? = some 21 := zt_26 34 1698 21 rfl rfl
theorem zy_1699 : code.data.toList[1699]? = some 4 := zt_26 35 1699 4 rfl rfl
theorem zy_1700 : code.data.toList[1700]? = some 4 := zt_26 36 1700 4 rfl rfl
theorem zy_1701 : code.data.toList[1701]? = some 96 := zt_26 37 1701 96 rfl rfl
theorem zy_1702 : code.data.toList[1702]? = some 46 := zt_26 38 1702 46 rfl rfl
theorem zy_1703 : code.data.toList[1703]? = some 182 := zt_26 39 1703 182 rfl rfl
theorem zy_1704 : code.data.toList[1704]? = some 0 := zt_26 40 1704 0 rfl rfl
theorem zy_1705 : code.data.toList[1705]? = some 203 := zt_26 41 1705 203 rfl rfl
theorem zy_1706 : code.data.toList[1706]? = some 87 := zt_26 42 1706 87 rfl rfl
theorem zy_1707 : code.data.toList[1707]? = some 44 := zt_26 43 1707 44 rfl rfl
theorem zy_1708 : code.data.toList[1708]? = some 42 := zt_26 44 1708 42 rfl rfl
theorem zy_1709 : code.data.toList[1709]? = some 21 := zt_26 45 1709 21 rfl rfl
theorem zy_1710 : code.data.toList[1710]? = some 4 := zt_26 46 1710 4 rfl rfl
theorem zy_1711 : code.data.toList[1711]? = some 4 := zt_26 47 1711 4 rfl rfl
theorem zy_1712 : code.data.toList[1712]? = some 96 := zt_26 48 1712 96 rfl rfl
theorem zy_1713 : code.data.toList[1713]? = some 46 := zt_26 49 1713 46 rfl rfl
theorem zy_1714 : code.data.toList[1714]? = some 182 := zt_26 50 1714 182 rfl rfl
theorem zy_1715 : code.data.toList[1715]? = some 0 := zt_26 51 1715 0 rfl rfl
theorem zy_1716 : code.data.toList[1716]? = some 206 := zt_26 52 1716 206 rfl rfl
theorem zy_1717 : code.data.toList[1717]? = some 87 := zt_26 53 1717 87 rfl rfl
theorem zy_1721 : code.data.toList[1721]? = some 43 := zt_26 57 1721 43 rfl rfl
theorem zy_1722 : code.data.toList[1722]? = some 42 := zt_26 58 1722 42 rfl rfl
theorem zy_1723 : code.data.toList[1723]? = some 21 := zt_26 59 1723 21 rfl rfl
theorem zy_1724 : code.data.toList[1724]? = some 4 := zt_26 60 1724 4 rfl rfl
theorem zy_1725 : code.data.toList[1725]? = some 4 := zt_26 61 1725 4 rfl rfl
theorem zy_1726 : code.data.toList[1726]? = some 96 := zt_26 62 1726 96 rfl rfl
theorem zy_1727 : code.data.toList[1727]? = some 46 := zt_26 63 1727 46 rfl rfl
theorem zy_1728 : code.data.toList[1728]? = some 182 := zt_27 0 1728 182 rfl rfl
theorem zy_1729 : code.data.toList[1729]? = some 0 := zt_27 1 1729 0 rfl rfl
theorem zy_1730 : code.data.toList[1730]? = some 207 := zt_27 2 1730 207 rfl rfl
theorem zy_1731 : code.data.toList[1731]? = some 87 := zt_27 3 1731 87 rfl rfl
theorem zy_1732 : code.data.toList[1732]? = some 44 := zt_27 4 1732 44 rfl rfl
theorem zy_1733 : code.data.toList[1733]? = some 42 := zt_27 5 1733 42 rfl rfl
theorem zy_1734 : code.data.toList[1734]? = some 21 := zt_27 6 1734 21 rfl rfl
theorem zy_1735 : code.data.toList[1735]? = some 4 := zt_27 7 1735 4 rfl rfl
theorem zy_1736 : code.data.toList[1736]? = some 4 := zt_27 8 1736 4 rfl rfl
theorem zy_1737 : code.data.toList[1737]? = some 96 := zt_27 9 1737 96 rfl rfl
theorem zy_1738 : code.data.toList[1738]? = some 46 := zt_27 10 1738 46 rfl rfl
theorem zy_1739 : code.data.toList[1739]? = some 182 := zt_27 11 1739 182 rfl rfl
theorem zy_1740 : code.data.toList[1740]? = some 0 := zt_27 12 1740 0 rfl rfl
theorem zy_1741 : code.data.toList[1741]? = some 210 := zt_27 13 1741 210 rfl rfl
theorem zy_1742 : code.data.toList[1742]? = some 87 := zt_27 14 1742 87 rfl rfl
theorem zy_1746 : code.data.toList[1746]? = some 43 := zt_27 18 1746 43 rfl rfl
theorem zy_1747 : code.data.toList[1747]? = some 182 := zt_27 19 1747 182 rfl rfl
theorem zy_1748 : code.data.toList[1748]? = some 0 := zt_27 20 1748 0 rfl rfl
theorem zy_1749 : code.data.toList[1749]? = some 211 := zt_27 21 1749 211 rfl rfl
theorem zy_1750 : code.data.toList[1750]? = some 87 := zt_27 22 1750 87 rfl rfl
theorem zy_1751 : code.data.toList[1751]? = some 44 := zt_27 23 1751 44 rfl rfl
theorem zy_1752 : code.data.toList[1752]? = some 182 := zt_27 24 1752 182 rfl rfl
theorem zy_1753 : code.data.toList[1753]? = some 0 := zt_27 25 1753 0 rfl rfl
theorem zy_1754 : code.data.toList[1754]? = some 214 := zt_27 26 1754 214 rfl rfl
theorem zy_1755 : code.data.toList[1755]? = some 87 := zt_27 27 1755 87 rfl rfl
theorem zy_1759 : code.data.toList[1759]? = some 43 := zt_27 31 1759 43 rfl rfl
theorem zy_1760 : code.data.toList[1760]? = some 182 := zt_27 32 1760 182 rfl rfl
theorem zy_1761 : code.data.toList[1761]? = some 0 := zt_27 33 1761 0 rfl rfl
theorem zy_1762 : code.data.toList[1762]? = some 215 := zt_27 34 1762 215 rfl rfl
theorem zy_1763 : code.data.toList[1763]? = some 87 := zt_27 35 1763 87 rfl rfl
theorem zy_1764 : code.data.toList[1764]? = some 44 := zt_27 36 1764 44 rfl rfl
theorem zy_1765 : code.data.toList[1765]? = some 182 := zt_27 37 1765 182 rfl rfl
theorem zy_1766 : code.data.toList[1766]? = some 0 := zt_27 38 1766 0 rfl rfl
theorem zy_1767 : code.data.toList[1767]? = some 218 := zt_27 39 1767 218 rfl rfl
theorem zy_1768 : code.data.toList[1768]? = some 87 := zt_27 40 1768 87 rfl rfl
theorem zy_1772 : code.data.toList[1772]? = some 43 := zt_27 44 1772 43 rfl rfl
theorem zy_1773 : code.data.toList[1773]? = some 42 := zt_27 45 1773 42 rfl rfl
theorem zy_1774 : code.data.toList[1774]? = some 21 := zt_27 46 1774 21 rfl rfl
theorem zy_1775 : code.data.toList[1775]? = some 4 := zt_27 47 1775 4 rfl rfl
theorem zy_1776 : code.data.toList[1776]? = some 4 := zt_27 48 1776 4 rfl rfl
theorem zy_1777 : code.data.toList[1777]? = some 96 := zt_27 49 1777 96 rfl rfl
theorem zy_1778 : code.data.toList[1778]? = some 46 := zt_27 50 1778 46 rfl rfl
theorem zy_1779 : code.data.toList[1779]? = some 182 := zt_27 51 1779 182 rfl rfl
theorem zy_1780 : code.data.toList[1780]? = some 0 := zt_27 52 1780 0 rfl rfl
theorem zy_1781 : code.data.toList[1781]? = some 219 := zt_27 53 1781 219 rfl rfl
theorem zy_1782 : code.data.toList[1782]? = some 87 := zt_27 54 1782 87 rfl rfl
theorem zy_1783 : code.data.toList[1783]? = some 44 := zt_27 55 1783 44 rfl rfl
theorem zy_1784 : code.data.toList[1784]? = some 42 := zt_27 56 1784 42 rfl rfl
theorem zy_1785 : code.data.toList[1785]? = some 21 := zt_27 57 1785 21 rfl rfl
theorem zy_1786 : code.data.toList[1786]? = some 4 := zt_27 58 1786 4 rfl rfl
theorem zy_1787 : code.data.toList[1787]? = some 4 := zt_27 59 1787 4 rfl rfl
theorem zy_1788 : code.data.toList[1788]? = some 96 := zt_27 60 1788 96 rfl rfl
theorem zy_1789 : code.data.toList[1789]? = some 46 := zt_27 61 1789 46 rfl rfl
theorem zy_1790 : code.data.toList[1790]? = some 182 := zt_27 62 1790 182 rfl rfl
theorem zy_1791 : code.data.toList[1791]? = some 0 := zt_27 63 1791 0 rfl rfl
theorem zy_1792 : code.data.toList[1792]? = some 222 := zt_28 0 1792 222 rfl rfl
theorem zy_1793 : code.data.toList[1793]? = some 87 := zt_28 1 1793 87 rfl rfl
theorem zy_1803 : code.data.toList[1803]? = some 4 := zt_28 11 1803 4 rfl rfl
