theorem zd_u1 {code : ByteArray} {p : Nat} {b : UInt8} (h : code.data.toList[p]? = some b) : StateT.run (ReaderT.run (Jvm.ClassFile.Reader.u1 (ε := Jvm.ClassFile.DecodeError)) code) p = Except.ok (b.toNat, p + 1) := by
  obtain ⟨hp, e⟩ := List.getElem?_eq_some_iff.mp h
  have hs : p < code.size := hp
  have hb : code[p]'hs = b := e
  show (if h : p < code.size then (do set (p + 1); pure (code[p]'h).toNat : Jvm.ClassFile.Reader Jvm.ClassFile.DecodeError Nat) else throw (Jvm.ClassFile.HasTruncated.truncated p)) code p = _
  rw [dif_pos hs, hb]
  rfl
theorem zd_b {code : ByteArray} {α β : Type} (r : Jvm.ClassFile.Decoder α) (f : α → Jvm.ClassFile.Decoder β) (p q : Nat) (a : α) (h : StateT.run (ReaderT.run r code) p = Except.ok (a, q)) : StateT.run (ReaderT.run (r >>= f) code) p = StateT.run (ReaderT.run (f a) code) q := by
  show Except.bind (StateT.run (ReaderT.run r code) p) (fun v => StateT.run (ReaderT.run (f v.1) code) v.2) = _
  rw [h]
  rfl
theorem zd_d {code : ByteArray} {p q : Nat} {i : Jvm.ClassFile.Instr} {n : Nat} (h : StateT.run (ReaderT.run (Jvm.ClassFile.Decoder.instr p) code) p = Except.ok (i, q)) (hn : q = p + n) : decode code p = .ok (i, n) := by
  have e : decode code p = Except.bind (StateT.run (ReaderT.run (Jvm.ClassFile.Decoder.instr p) code) p) (fun v => Except.ok (v.1, v.2 - p)) := rfl
  rw [e, h]
  show Except.ok (i, q - p) = _
  rw [hn, Nat.add_sub_cancel_left]
theorem zd_o42 {code : ByteArray} {p : Nat} (h : code.data.toList[p]? = some 42) : decode code p = .ok (.aload_n 0, 1) := by
  refine zd_d (q := p + 1) ?_ rfl
  unfold Jvm.ClassFile.Decoder.instr
  rw [zd_b _ _ p (p + 1) 42 (zd_u1 h)]
  rfl
theorem zd_o43 {code : ByteArray} {p : Nat} (h : code.data.toList[p]? = some 43) : decode code p = .ok (.aload_n 1, 1) := by
  refine zd_d (q := p + 1) ?_ rfl
  unfold Jvm.ClassFile.Decoder.instr
  rw [zd_b _ _ p (p + 1) 43 (zd_u1 h)]
  rfl
theorem zd_o44 {code : ByteArray} {p : Nat} (h : code.data.toList[p]? = some 44) : decode code p = .ok (.aload_n 2, 1) := by
  refine zd_d (q := p + 1) ?_ rfl
  unfold Jvm.ClassFile.Decoder.instr
  rw [zd_b _ _ p (p + 1) 44 (zd_u1 h)]
  rfl
theorem zd_o45 {code : ByteArray} {p : Nat} (h : code.data.toList[p]? = some 45) : decode code p = .ok (.aload_n 3, 1) := by
  refine zd_d (q := p + 1) ?_ rfl
  unfold Jvm.ClassFile.Decoder.instr
  rw [zd_b _ _ p (p + 1) 45 (zd_u1 h)]
  rfl
theorem zd_o96 {code : ByteArray} {p : Nat} (h : code.data.toList[p]? = some 96) : decode code p = .ok (.iadd, 1) := by
  refine zd_d (q := p + 1) ?_ rfl
  unfold Jvm.ClassFile.Decoder.instr
  rw [zd_b _ _ p (p + 1) 96 (zd_u1 h)]
  rfl
theorem zd_o46 {code : ByteArray} {p : Nat} (h : code.data.toList[p]? = some 46) : decode code p = .ok (.iaload, 1) := by
  refine zd_d (q := p + 1) ?_ rfl
  unfold Jvm.ClassFile.Decoder.instr
  rw [zd_b _ _ p (p + 1) 46 (zd_u1 h)]
  rfl
theorem zd_o2 {code : ByteArray} {p : Nat} (h : code.data.toList[p]? = some 2) : decode code p = .ok (.iconst (-1), 1) := by
  refine zd_d (q := p + 1) ?_ rfl
  unfold Jvm.ClassFile.Decoder.instr
  rw [zd_b _ _ p (p + 1) 2 (zd_u1 h)]
  rfl
theorem zd_o3 {code : ByteArray} {p : Nat} (h : code.data.toList[p]? = some 3) : decode code p = .ok (.iconst 0, 1) := by
  refine zd_d (q := p + 1) ?_ rfl
  unfold Jvm.ClassFile.Decoder.instr
  rw [zd_b _ _ p (p + 1) 3 (zd_u1 h)]
  rfl
theorem zd_o4 {code : ByteArray} {p : Nat} (h : code.data.toList[p]? = some 4) : decode code p = .ok (.iconst 1, 1) := by
  refine zd_d (q := p + 1) ?_ rfl
  unfold Jvm.ClassFile.Decoder.instr
  rw [zd_b _ _ p (p + 1) 4 (zd_u1 h)]
  rfl
theorem zd_o5 {code : ByteArray} {p : Nat} (h : code.data.toList[p]? = some 5) : decode code p = .ok (.iconst 2, 1) := by
  refine zd_d (q := p + 1) ?_ rfl
  unfold Jvm.ClassFile.Decoder.instr
  rw [zd_b _ _ p (p + 1) 5 (zd_u1 h)]
  rfl
theorem zd_o6 {code : ByteArray} {p : Nat} (h : code.data.toList[p]? = some 6) : decode code p = .ok (.iconst 3, 1) := by
  refine zd_d (q := p + 1) ?_ rfl
  unfold Jvm.ClassFile.Decoder.instr
  rw [zd_b _ _ p (p + 1) 6 (zd_u1 h)]
  rfl
theorem zd_o7 {code : ByteArray} {p : Nat} (h : code.data.toList[p]? = some 7) : decode code p = .ok (.iconst 4, 1) := by
  refine zd_d (q := p + 1) ?_ rfl
  unfold Jvm.ClassFile.Decoder.instr
  rw [zd_b _ _ p (p + 1) 7 (zd_u1 h)]
  rfl
theorem zd_o8 {code : ByteArray} {p : Nat} (h : code.data.toList[p]? = some 8) : decode code p = .ok (.iconst 5, 1) := by
  refine zd_d (q := p + 1) ?_ rfl
  unfold Jvm.ClassFile.Decoder.instr
  rw [zd_b _ _ p (p + 1) 8 (zd_u1 h)]
  rfl
theorem zd_o87 {code : ByteArray} {p : Nat} (h : code.data.toList[p]? = some 87) : decode code p = .ok (.pop, 1) := by
  refine zd_d (q := p + 1) ?_ rfl
  unfold Jvm.ClassFile.Decoder.instr
  rw [zd_b _ _ p (p + 1) 87 (zd_u1 h)]
  rfl
theorem zd_iload {code : ByteArray} {p n : Nat} {b : UInt8} (h : code.data.toList[p]? = some 21) (h1 : code.data.toList[p + 1]? = some b) (hn : b.toNat = n) : decode code p = .ok (.iload n, 2) := by
  refine zd_d (q := p + 2) ?_ rfl
  unfold Jvm.ClassFile.Decoder.instr
  rw [zd_b _ _ p (p + 1) 21 (zd_u1 h)]
  show StateT.run (ReaderT.run ((Jvm.ClassFile.Reader.u1 (ε := Jvm.ClassFile.DecodeError)) >>= fun x => pure (Jvm.ClassFile.Instr.iload x)) code) (p + 1) = _
  rw [zd_b _ _ (p + 1) (p + 2) b.toNat (zd_u1 h1), hn]
  rfl
theorem zd_u2 {code : ByteArray} {p : Nat} {a b : UInt8} (h : code.data.toList[p]? = some a) (h1 : code.data.toList[p + 1]? = some b) : StateT.run (ReaderT.run (Jvm.ClassFile.Reader.u2 (ε := Jvm.ClassFile.DecodeError)) code) p = Except.ok (a.toNat * 256 + b.toNat, p + 2) := by
  unfold Jvm.ClassFile.Reader.u2
  rw [zd_b _ _ p (p + 1) a.toNat (zd_u1 h), zd_b _ _ (p + 1) (p + 2) b.toNat (zd_u1 h1)]
  rfl
theorem zd_invv {code : ByteArray} {p n : Nat} {a b : UInt8} (h : code.data.toList[p]? = some 182) (h1 : code.data.toList[p + 1]? = some a) (h2 : code.data.toList[p + 1 + 1]? = some b) (hn : a.toNat * 256 + b.toNat = n) : decode code p = .ok (.invokevirtual n, 3) := by
  refine zd_d (q := p + 3) ?_ rfl
  unfold Jvm.ClassFile.Decoder.instr
  rw [zd_b _ _ p (p + 1) 182 (zd_u1 h)]
  show StateT.run (ReaderT.run ((Jvm.ClassFile.Reader.u2 (ε := Jvm.ClassFile.DecodeError)) >>= fun x => pure (Jvm.ClassFile.Instr.invokevirtual x)) code) (p + 1) = _
  rw [zd_b _ _ (p + 1) (p + 3) (a.toNat * 256 + b.toNat) (zd_u2 h1 h2), hn]
  rfl
def zl_28 : List UInt8 := 44 :: 182 :: 0 :: 221 :: 87 :: 167 :: 0 :: 28 :: 43 :: 42 :: 21 :: 4 :: 4 :: 96 :: 46 :: 182 :: 0 :: 222 :: 87 :: 44 :: 42 :: 21 :: 4 :: 4 :: 96 :: 46 :: 182 :: 0 :: 225 :: 87 :: 167 :: 0 :: 3 :: 132 :: 4 :: 7 :: 167 :: 248 :: 243 :: 4 :: 172 :: []
def zl_27 : List UInt8 := 4 :: 96 :: 46 :: 182 :: 0 :: 206 :: 87 :: 44 :: 42 :: 21 :: 4 :: 4 :: 96 :: 46 :: 182 :: 0 :: 209 :: 87 :: 167 :: 0 :: 79 :: 43 :: 42 :: 21 :: 4 :: 4 :: 96 :: 46 :: 182 :: 0 :: 210 :: 87 :: 44 :: 42 :: 21 :: 4 :: 4 :: 96 :: 46 :: 182 :: 0 :: 213 :: 87 :: 167 :: 0 :: 54 :: 43 :: 182 :: 0 :: 214 :: 87 :: 44 :: 182 :: 0 :: 217 :: 87 :: 167 :: 0 :: 41 :: 43 :: 182 :: 0 :: 218 :: 87 :: zl_28
def zl_26 : List UInt8 := 4 :: 96 :: 46 :: 182 :: 0 :: 197 :: 87 :: 167 :: 0 :: 154 :: 43 :: 42 :: 21 :: 4 :: 4 :: 96 :: 46 :: 182 :: 0 :: 198 :: 87 :: 44 :: 42 :: 21 :: 4 :: 4 :: 96 :: 46 :: 182 :: 0 :: 201 :: 87 :: 167 :: 0 :: 129 :: 43 :: 42 :: 21 :: 4 :: 4 :: 96 :: 46 :: 182 :: 0 :: 202 :: 87 :: 44 :: 42 :: 21 :: 4 :: 4 :: 96 :: 46 :: 182 :: 0 :: 205 :: 87 :: 167 :: 0 :: 104 :: 43 :: 42 :: 21 :: 4 :: zl_27
def zl_25 : List UInt8 := 42 :: 21 :: 4 :: 4 :: 96 :: 46 :: 182 :: 0 :: 186 :: 87 :: 44 :: 42 :: 21 :: 4 :: 4 :: 96 :: 46 :: 182 :: 0 :: 189 :: 87 :: 167 :: 0 :: 204 :: 43 :: 42 :: 21 :: 4 :: 4 :: 96 :: 46 :: 182 :: 0 :: 190 :: 87 :: 44 :: 42 :: 21 :: 4 :: 4 :: 96 :: 46 :: 182 :: 0 :: 193 :: 87 :: 167 :: 0 :: 179 :: 43 :: 42 :: 21 :: 4 :: 4 :: 96 :: 46 :: 182 :: 0 :: 194 :: 87 :: 44 :: 42 :: 21 :: 4 :: zl_26
def zl_24 : List UInt8 := 46 :: 42 :: 21 :: 4 :: 5 :: 96 :: 46 :: 182 :: 0 :: 181 :: 87 :: 167 :: 1 :: 22 :: 43 :: 42 :: 21 :: 4 :: 4 :: 96 :: 46 :: 42 :: 21 :: 4 :: 5 :: 96 :: 46 :: 42 :: 21 :: 4 :: 6 :: 96 :: 46 :: 182 :: 0 :: 182 :: 87 :: 44 :: 42 :: 21 :: 4 :: 4 :: 96 :: 46 :: 42 :: 21 :: 4 :: 5 :: 96 :: 46 :: 42 :: 21 :: 4 :: 6 :: 96 :: 46 :: 182 :: 0 :: 185 :: 87 :: 167 :: 0 :: 229 :: 43 :: zl_25
def zl_23 : List UInt8 := 4 :: 96 :: 46 :: 42 :: 21 :: 4 :: 5 :: 96 :: 46 :: 182 :: 0 :: 173 :: 87 :: 167 :: 1 :: 84 :: 43 :: 42 :: 21 :: 4 :: 4 :: 96 :: 46 :: 182 :: 0 :: 174 :: 87 :: 44 :: 42 :: 21 :: 4 :: 4 :: 96 :: 46 :: 182 :: 0 :: 177 :: 87 :: 167 :: 1 :: 59 :: 43 :: 42 :: 21 :: 4 :: 4 :: 96 :: 46 :: 42 :: 21 :: 4 :: 5 :: 96 :: 46 :: 182 :: 0 :: 178 :: 87 :: 44 :: 42 :: 21 :: 4 :: 4 :: 96 :: zl_24
def zl_22 : List UInt8 := 0 :: 165 :: 87 :: 167 :: 1 :: 158 :: 43 :: 42 :: 21 :: 4 :: 4 :: 96 :: 46 :: 42 :: 21 :: 4 :: 5 :: 96 :: 46 :: 182 :: 0 :: 166 :: 87 :: 44 :: 42 :: 21 :: 4 :: 4 :: 96 :: 46 :: 42 :: 21 :: 4 :: 5 :: 96 :: 46 :: 182 :: 0 :: 169 :: 87 :: 167 :: 1 :: 121 :: 43 :: 42 :: 21 :: 4 :: 4 :: 96 :: 46 :: 42 :: 21 :: 4 :: 5 :: 96 :: 46 :: 182 :: 0 :: 170 :: 87 :: 44 :: 42 :: 21 :: 4 :: zl_23
def zl_21 : List UInt8 := 96 :: 46 :: 182 :: 0 :: 160 :: 87 :: 167 :: 1 :: 219 :: 43 :: 42 :: 21 :: 4 :: 4 :: 96 :: 46 :: 42 :: 21 :: 4 :: 5 :: 96 :: 46 :: 42 :: 21 :: 4 :: 6 :: 96 :: 46 :: 42 :: 21 :: 4 :: 7 :: 96 :: 46 :: 182 :: 0 :: 161 :: 87 :: 44 :: 42 :: 21 :: 4 :: 4 :: 96 :: 46 :: 42 :: 21 :: 4 :: 5 :: 96 :: 46 :: 42 :: 21 :: 4 :: 6 :: 96 :: 46 :: 42 :: 21 :: 4 :: 7 :: 96 :: 46 :: 182 :: zl_22
def zl_20 : List UInt8 := 21 :: 4 :: 6 :: 96 :: 46 :: 42 :: 21 :: 4 :: 7 :: 96 :: 46 :: 42 :: 21 :: 4 :: 8 :: 96 :: 46 :: 42 :: 21 :: 4 :: 16 :: 6 :: 96 :: 46 :: 182 :: 0 :: 156 :: 87 :: 44 :: 42 :: 21 :: 4 :: 4 :: 96 :: 46 :: 42 :: 21 :: 4 :: 5 :: 96 :: 46 :: 42 :: 21 :: 4 :: 6 :: 96 :: 46 :: 42 :: 21 :: 4 :: 7 :: 96 :: 46 :: 42 :: 21 :: 4 :: 8 :: 96 :: 46 :: 42 :: 21 :: 4 :: 16 :: 6 :: zl_21
def zl_19 : List UInt8 := 46 :: 182 :: 0 :: 148 :: 87 :: 44 :: 42 :: 21 :: 4 :: 4 :: 96 :: 46 :: 42 :: 21 :: 4 :: 5 :: 96 :: 46 :: 182 :: 0 :: 151 :: 87 :: 167 :: 2 :: 75 :: 43 :: 42 :: 21 :: 4 :: 4 :: 96 :: 46 :: 182 :: 0 :: 152 :: 87 :: 44 :: 42 :: 21 :: 4 :: 4 :: 96 :: 46 :: 182 :: 0 :: 155 :: 87 :: 167 :: 2 :: 50 :: 43 :: 42 :: 21 :: 4 :: 4 :: 96 :: 46 :: 42 :: 21 :: 4 :: 5 :: 96 :: 46 :: 42 :: zl_20
def zl_18 : List UInt8 := 2 :: 162 :: 43 :: 42 :: 21 :: 4 :: 4 :: 96 :: 46 :: 182 :: 0 :: 140 :: 87 :: 44 :: 42 :: 21 :: 4 :: 4 :: 96 :: 46 :: 182 :: 0 :: 143 :: 87 :: 167 :: 2 :: 137 :: 43 :: 42 :: 21 :: 4 :: 4 :: 96 :: 46 :: 182 :: 0 :: 144 :: 87 :: 44 :: 42 :: 21 :: 4 :: 4 :: 96 :: 46 :: 182 :: 0 :: 147 :: 87 :: 167 :: 2 :: 112 :: 43 :: 42 :: 21 :: 4 :: 4 :: 96 :: 46 :: 42 :: 21 :: 4 :: 5 :: 96 :: zl_19
def zl_17 : List UInt8 := 21 :: 4 :: 5 :: 96 :: 46 :: 182 :: 0 :: 132 :: 87 :: 44 :: 42 :: 21 :: 4 :: 4 :: 96 :: 46 :: 42 :: 21 :: 4 :: 5 :: 96 :: 46 :: 182 :: 0 :: 135 :: 87 :: 167 :: 2 :: 199 :: 43 :: 42 :: 21 :: 4 :: 4 :: 96 :: 46 :: 42 :: 21 :: 4 :: 5 :: 96 :: 46 :: 182 :: 0 :: 136 :: 87 :: 44 :: 42 :: 21 :: 4 :: 4 :: 96 :: 46 :: 42 :: 21 :: 4 :: 5 :: 96 :: 46 :: 182 :: 0 :: 139 :: 87 :: 167 :: zl_18
def zl_16 : List UInt8 := 46 :: 182 :: 0 :: 124 :: 87 :: 44 :: 42 :: 21 :: 4 :: 4 :: 96 :: 46 :: 182 :: 0 :: 127 :: 87 :: 167 :: 3 :: 17 :: 43 :: 42 :: 21 :: 4 :: 4 :: 96 :: 46 :: 42 :: 21 :: 4 :: 5 :: 96 :: 46 :: 182 :: 0 :: 128 :: 87 :: 44 :: 42 :: 21 :: 4 :: 4 :: 96 :: 46 :: 42 :: 21 :: 4 :: 5 :: 96 :: 46 :: 182 :: 0 :: 131 :: 87 :: 167 :: 2 :: 236 :: 43 :: 42 :: 21 :: 4 :: 4 :: 96 :: 46 :: 42 :: zl_17
def zl_15 : List UInt8 := 46 :: 182 :: 0 :: 115 :: 87 :: 167 :: 3 :: 92 :: 43 :: 182 :: 0 :: 116 :: 87 :: 44 :: 182 :: 0 :: 119 :: 87 :: 167 :: 3 :: 79 :: 43 :: 42 :: 21 :: 4 :: 4 :: 96 :: 46 :: 42 :: 21 :: 4 :: 5 :: 96 :: 46 :: 182 :: 0 :: 120 :: 87 :: 44 :: 42 :: 21 :: 4 :: 4 :: 96 :: 46 :: 42 :: 21 :: 4 :: 5 :: 96 :: 46 :: 182 :: 0 :: 123 :: 87 :: 167 :: 3 :: 42 :: 43 :: 42 :: 21 :: 4 :: 4 :: 96 :: zl_16
def zl_14 : List UInt8 := 46 :: 133 :: 20 :: 0 :: 105 :: 127 :: 129 :: 182 :: 0 :: 107 :: 87 :: 44 :: 42 :: 21 :: 4 :: 4 :: 96 :: 46 :: 42 :: 21 :: 4 :: 5 :: 96 :: 46 :: 133 :: 16 :: 32 :: 121 :: 42 :: 21 :: 4 :: 6 :: 96 :: 46 :: 133 :: 20 :: 0 :: 105 :: 127 :: 129 :: 182 :: 0 :: 111 :: 87 :: 167 :: 3 :: 117 :: 43 :: 42 :: 21 :: 4 :: 4 :: 96 :: 46 :: 182 :: 0 :: 112 :: 87 :: 44 :: 42 :: 21 :: 4 :: 4 :: 96 :: zl_15
def zl_13 : List UInt8 := 0 :: 97 :: 87 :: 44 :: 42 :: 21 :: 4 :: 4 :: 96 :: 46 :: 182 :: 0 :: 100 :: 87 :: 167 :: 3 :: 211 :: 43 :: 42 :: 21 :: 4 :: 4 :: 96 :: 46 :: 182 :: 0 :: 101 :: 87 :: 44 :: 42 :: 21 :: 4 :: 4 :: 96 :: 46 :: 182 :: 0 :: 104 :: 87 :: 167 :: 3 :: 186 :: 43 :: 42 :: 21 :: 4 :: 4 :: 96 :: 46 :: 42 :: 21 :: 4 :: 5 :: 96 :: 46 :: 133 :: 16 :: 32 :: 121 :: 42 :: 21 :: 4 :: 6 :: 96 :: zl_14
def zl_12 : List UInt8 := 182 :: 0 :: 85 :: 87 :: 44 :: 42 :: 21 :: 4 :: 4 :: 96 :: 46 :: 182 :: 0 :: 88 :: 87 :: 167 :: 4 :: 18 :: 43 :: 42 :: 21 :: 4 :: 4 :: 96 :: 46 :: 182 :: 0 :: 89 :: 87 :: 44 :: 42 :: 21 :: 4 :: 4 :: 96 :: 46 :: 182 :: 0 :: 92 :: 87 :: 167 :: 3 :: 249 :: 43 :: 182 :: 0 :: 93 :: 87 :: 44 :: 182 :: 0 :: 96 :: 87 :: 167 :: 3 :: 236 :: 43 :: 42 :: 21 :: 4 :: 4 :: 96 :: 46 :: 182 :: zl_13
def zl_11 : List UInt8 := 182 :: 0 :: 76 :: 87 :: 167 :: 4 :: 93 :: 43 :: 42 :: 21 :: 4 :: 4 :: 96 :: 46 :: 182 :: 0 :: 77 :: 87 :: 44 :: 42 :: 21 :: 4 :: 4 :: 96 :: 46 :: 182 :: 0 :: 80 :: 87 :: 167 :: 4 :: 68 :: 43 :: 42 :: 21 :: 4 :: 4 :: 96 :: 46 :: 182 :: 0 :: 81 :: 87 :: 44 :: 42 :: 21 :: 4 :: 4 :: 96 :: 46 :: 182 :: 0 :: 84 :: 87 :: 167 :: 4 :: 43 :: 43 :: 42 :: 21 :: 4 :: 4 :: 96 :: 46 :: zl_12
def zl_10 : List UInt8 := 4 :: 4 :: 96 :: 46 :: 42 :: 21 :: 4 :: 5 :: 96 :: 46 :: 182 :: 0 :: 69 :: 87 :: 44 :: 42 :: 21 :: 4 :: 4 :: 96 :: 46 :: 42 :: 21 :: 4 :: 5 :: 96 :: 46 :: 182 :: 0 :: 72 :: 87 :: 167 :: 4 :: 130 :: 43 :: 42 :: 21 :: 4 :: 4 :: 96 :: 46 :: 42 :: 21 :: 4 :: 5 :: 96 :: 46 :: 182 :: 0 :: 73 :: 87 :: 44 :: 42 :: 21 :: 4 :: 4 :: 96 :: 46 :: 42 :: 21 :: 4 :: 5 :: 96 :: 46 :: zl_11
def zl_9 : List UInt8 := 21 :: 4 :: 5 :: 96 :: 46 :: 182 :: 0 :: 63 :: 87 :: 167 :: 4 :: 216 :: 43 :: 42 :: 21 :: 4 :: 4 :: 96 :: 46 :: 42 :: 21 :: 4 :: 5 :: 96 :: 46 :: 42 :: 21 :: 4 :: 6 :: 96 :: 46 :: 182 :: 0 :: 64 :: 87 :: 44 :: 42 :: 21 :: 4 :: 4 :: 96 :: 46 :: 42 :: 21 :: 4 :: 5 :: 96 :: 46 :: 42 :: 21 :: 4 :: 6 :: 96 :: 46 :: 182 :: 0 :: 68 :: 87 :: 167 :: 4 :: 167 :: 43 :: 42 :: 21 :: zl_10
def zl_8 : List UInt8 := 46 :: 42 :: 21 :: 4 :: 5 :: 96 :: 46 :: 182 :: 0 :: 55 :: 87 :: 167 :: 5 :: 22 :: 43 :: 42 :: 21 :: 4 :: 4 :: 96 :: 46 :: 182 :: 0 :: 56 :: 87 :: 44 :: 42 :: 21 :: 4 :: 4 :: 96 :: 46 :: 182 :: 0 :: 59 :: 87 :: 167 :: 4 :: 253 :: 43 :: 42 :: 21 :: 4 :: 4 :: 96 :: 46 :: 42 :: 21 :: 4 :: 5 :: 96 :: 46 :: 182 :: 0 :: 60 :: 87 :: 44 :: 42 :: 21 :: 4 :: 4 :: 96 :: 46 :: 42 :: zl_9
def zl_7 : List UInt8 := 21 :: 4 :: 5 :: 96 :: 46 :: 182 :: 0 :: 47 :: 54 :: 6 :: 44 :: 182 :: 0 :: 48 :: 21 :: 5 :: 159 :: 0 :: 5 :: 3 :: 172 :: 21 :: 5 :: 154 :: 0 :: 15 :: 45 :: 3 :: 47 :: 21 :: 6 :: 133 :: 148 :: 153 :: 0 :: 5 :: 3 :: 172 :: 167 :: 5 :: 59 :: 43 :: 42 :: 21 :: 4 :: 4 :: 96 :: 46 :: 42 :: 21 :: 4 :: 5 :: 96 :: 46 :: 182 :: 0 :: 52 :: 87 :: 44 :: 42 :: 21 :: 4 :: 4 :: 96 :: zl_8
def zl_6 : List UInt8 := 21 :: 4 :: 4 :: 96 :: 46 :: 182 :: 0 :: 37 :: 87 :: 167 :: 5 :: 152 :: 43 :: 42 :: 21 :: 4 :: 4 :: 96 :: 46 :: 182 :: 0 :: 38 :: 87 :: 44 :: 42 :: 21 :: 4 :: 4 :: 96 :: 46 :: 182 :: 0 :: 41 :: 87 :: 167 :: 5 :: 127 :: 43 :: 42 :: 21 :: 4 :: 4 :: 96 :: 46 :: 42 :: 21 :: 4 :: 5 :: 96 :: 46 :: 45 :: 184 :: 0 :: 42 :: 54 :: 5 :: 44 :: 42 :: 21 :: 4 :: 4 :: 96 :: 46 :: 42 :: zl_7
def zl_5 : List UInt8 := 227 :: 43 :: 42 :: 21 :: 4 :: 4 :: 96 :: 46 :: 182 :: 0 :: 24 :: 87 :: 44 :: 42 :: 21 :: 4 :: 4 :: 96 :: 46 :: 182 :: 0 :: 28 :: 87 :: 167 :: 5 :: 202 :: 43 :: 42 :: 21 :: 4 :: 4 :: 96 :: 46 :: 182 :: 0 :: 29 :: 87 :: 44 :: 42 :: 21 :: 4 :: 4 :: 96 :: 46 :: 182 :: 0 :: 33 :: 87 :: 167 :: 5 :: 177 :: 43 :: 42 :: 21 :: 4 :: 4 :: 96 :: 46 :: 182 :: 0 :: 34 :: 87 :: 44 :: 42 :: zl_6
def zl_4 : List UInt8 := 21 :: 4 :: 5 :: 96 :: 46 :: 42 :: 21 :: 4 :: 6 :: 96 :: 46 :: 42 :: 21 :: 4 :: 7 :: 96 :: 46 :: 42 :: 21 :: 4 :: 8 :: 96 :: 46 :: 182 :: 0 :: 19 :: 87 :: 44 :: 42 :: 21 :: 4 :: 4 :: 96 :: 46 :: 42 :: 21 :: 4 :: 5 :: 96 :: 46 :: 42 :: 21 :: 4 :: 6 :: 96 :: 46 :: 42 :: 21 :: 4 :: 7 :: 96 :: 46 :: 42 :: 21 :: 4 :: 8 :: 96 :: 46 :: 182 :: 0 :: 23 :: 87 :: 167 :: 5 :: zl_5
def zl_3 : List UInt8 := 0 :: 0 :: 5 :: 131 :: 0 :: 0 :: 5 :: 168 :: 0 :: 0 :: 5 :: 193 :: 0 :: 0 :: 5 :: 230 :: 0 :: 0 :: 6 :: 23 :: 0 :: 0 :: 6 :: 48 :: 0 :: 0 :: 6 :: 73 :: 0 :: 0 :: 6 :: 98 :: 0 :: 0 :: 6 :: 123 :: 0 :: 0 :: 6 :: 148 :: 0 :: 0 :: 6 :: 173 :: 0 :: 0 :: 6 :: 198 :: 0 :: 0 :: 6 :: 211 :: 0 :: 0 :: 6 :: 224 :: 43 :: 42 :: 21 :: 4 :: 4 :: 96 :: 46 :: 42 :: zl_4
def zl_2 : List UInt8 := 0 :: 0 :: 3 :: 41 :: 0 :: 0 :: 3 :: 66 :: 0 :: 0 :: 3 :: 135 :: 0 :: 0 :: 3 :: 160 :: 0 :: 0 :: 3 :: 173 :: 0 :: 0 :: 3 :: 210 :: 0 :: 0 :: 3 :: 235 :: 0 :: 0 :: 4 :: 16 :: 0 :: 0 :: 4 :: 53 :: 0 :: 0 :: 4 :: 90 :: 0 :: 0 :: 4 :: 115 :: 0 :: 0 :: 4 :: 140 :: 0 :: 0 :: 4 :: 177 :: 0 :: 0 :: 4 :: 202 :: 0 :: 0 :: 5 :: 33 :: 0 :: 0 :: 5 :: 94 :: zl_3
def zl_1 : List UInt8 := 0 :: 0 :: 1 :: 50 :: 0 :: 0 :: 1 :: 75 :: 0 :: 0 :: 1 :: 100 :: 0 :: 0 :: 1 :: 125 :: 0 :: 0 :: 1 :: 193 :: 0 :: 0 :: 1 :: 230 :: 0 :: 0 :: 1 :: 255 :: 0 :: 0 :: 2 :: 36 :: 0 :: 0 :: 2 :: 85 :: 0 :: 0 :: 2 :: 122 :: 0 :: 0 :: 2 :: 159 :: 0 :: 0 :: 2 :: 184 :: 0 :: 0 :: 2 :: 209 :: 0 :: 0 :: 2 :: 234 :: 0 :: 0 :: 3 :: 3 :: 0 :: 0 :: 3 :: 16 :: zl_2
def zl_0 : List UInt8 := 187 :: 0 :: 8 :: 89 :: 183 :: 0 :: 15 :: 76 :: 187 :: 0 :: 16 :: 89 :: 183 :: 0 :: 18 :: 77 :: 4 :: 188 :: 11 :: 78 :: 3 :: 54 :: 4 :: 21 :: 4 :: 42 :: 190 :: 16 :: 7 :: 100 :: 163 :: 7 :: 9 :: 42 :: 21 :: 4 :: 46 :: 16 :: 63 :: 126 :: 170 :: 0 :: 0 :: 0 :: 0 :: 0 :: 6 :: 249 :: 0 :: 0 :: 0 :: 0 :: 0 :: 0 :: 0 :: 47 :: 0 :: 0 :: 0 :: 208 :: 0 :: 0 :: 1 :: 25 :: zl_1
set_option maxRecDepth 100000 in
theorem zd_c : code.data.toList = zl_0 := by decide +kernel
theorem zl_s {l m : List UInt8} {q j i : Nat} {b : UInt8} (H : ∀ (j i : Nat) (b : UInt8), l[j]? = some b → i = q + j → code.data.toList[i]? = some b) (h : ∀ j : Nat, l[64 + j]? = m[j]?) (hm : m[j]? = some b) (hi : i = q + 64 + j) : code.data.toList[i]? = some b := H (64 + j) i b ((h j).trans hm) (by omega)
theorem zt_0 : ∀ (j i : Nat) (b : UInt8), zl_0[j]? = some b → i = 0 + j → code.data.toList[i]? = some b := fun j i b h e => by
  rw [zd_c, e, Nat.zero_add]
  exact h
theorem zt_1 : ∀ (j i : Nat) (b : UInt8), zl_1[j]? = some b → i = 64 + j → code.data.toList[i]? = some b := fun j i b h e => zl_s (l := zl_0) (q := 0) zt_0 (fun j => by rw [Nat.add_comm]; rfl) h e
theorem zt_2 : ∀ (j i : Nat) (b : UInt8), zl_2[j]? = some b → i = 128 + j → code.data.toList[i]? = some b := fun j i b h e => zl_s (l := zl_1) (q := 64) zt_1 (fun j => by rw [Nat.add_comm]; rfl) h e
theorem zt_3 : ∀ (j i : Nat) (b : UInt8), zl_3[j]? = some b → i = 192 + j → code.data.toList[i]? = some b := fun j i b h e => zl_s (l := zl_2) (q := 128) zt_2 (fun j => by rw [Nat.add_comm]; rfl) h e
theorem zt_4 : ∀ (j i : Nat) (b : UInt8), zl_4[j]? = some b → i = 256 + j → code.data.toList[i]? = some b := fun j i b h e => zl_s (l := zl_3) (q := 192) zt_3 (fun j => by rw [Nat.add_comm]; rfl) h e
theorem zt_5 : ∀ (j i : Nat) (b : UInt8), zl_5[j]? = some b → i = 320 + j → code.data.toList[i]? = some b := fun j i b h e => zl_s (l := zl_4) (q := 256) zt_4 (fun j => by rw [Nat.add_comm]; rfl) h e
theorem zt_6 : ∀ (j i : Nat) (b : UInt8), zl_6[j]? = some b → i = 384 + j → code.data.toList[i]? = some b := fun j i b h e => zl_s (l := zl_5) (q := 320) zt_5 (fun j => by rw [Nat.add_comm]; rfl) h e
theorem zt_7 : ∀ (j i : Nat) (b : UInt8), zl_7[j]? = some b → i = 448 + j → code.data.toList[i]? = some b := fun j i b h e => zl_s (l := zl_6) (q := 384) zt_6 (fun j => by rw [Nat.add_comm]; rfl) h e
theorem zt_8 : ∀ (j i : Nat) (b : UInt8), zl_8[j]? = some b → i = 512 + j → code.data.toList[i]? = some b := fun j i b h e => zl_s (l := zl_7) (q := 448) zt_7 (fun j => by rw [Nat.add_comm]; rfl) h e
theorem zt_9 : ∀ (j i : Nat) (b : UInt8), zl_9[j]? = some b → i = 576 + j → code.data.toList[i]? = some b := fun j i b h e => zl_s (l := zl_8) (q := 512) zt_8 (fun j => by rw [Nat.add_comm]; rfl) h e
theorem zt_10 : ∀ (j i : Nat) (b : UInt8), zl_10[j]? = some b → i = 640 + j → code.data.toList[i]? = some b := fun j i b h e => zl_s (l := zl_9) (q := 576) zt_9 (fun j => by rw [Nat.add_comm]; rfl) h e
theorem zt_11 : ∀ (j i : Nat) (b : UInt8), zl_11[j]? = some b → i = 704 + j → code.data.toList[i]? = some b := fun j i b h e => zl_s (l := zl_10) (q := 640) zt_10 (fun j => by rw [Nat.add_comm]; rfl) h e
theorem zt_12 : ∀ (j i : Nat) (b : UInt8), zl_12[j]? = some b → i = 768 + j → code.data.toList[i]? = some b := fun j i b h e => zl_s (l := zl_11) (q := 704) zt_11 (fun j => by rw [Nat.add_comm]; rfl) h e
theorem zt_13 : ∀ (j i : Nat) (b : UInt8), zl_13[j]? = some b → i = 832 + j → code.data.toList[i]? = some b := fun j i b h e => zl_s (l := zl_12) (q := 768) zt_12 (fun j => by rw [Nat.add_comm]; rfl) h e
theorem zt_14 : ∀ (j i : Nat) (b : UInt8), zl_14[j]? = some b → i = 896 + j → code.data.toList[i]? = some b := fun j i b h e => zl_s (l := zl_13) (q := 832) zt_13 (fun j => by rw [Nat.add_comm]; rfl) h e
theorem zt_15 : ∀ (j i : Nat) (b : UInt8), zl_15[j]? = some b → i = 960 + j → code.data.toList[i]? = some b := fun j i b h e => zl_s (l := zl_14) (q := 896) zt_14 (fun j => by rw [Nat.add_comm]; rfl) h e
theorem zt_16 : ∀ (j i : Nat) (b : UInt8), zl_16[j]? = some b → i = 1024 + j → code.data.toList[i]? = some b := fun j i b h e => zl_s (l := zl_15) (q := 960) zt_15 (fun j => by rw [Nat.add_comm]; rfl) h e
theorem zt_17 : ∀ (j i : Nat) (b : UInt8), zl_17[j]? = some b → i = 1088 + j → code.data.toList[i]? = some b := fun j i b h e => zl_s (l := zl_16) (q := 1024) zt_16 (fun j => by rw [Nat.add_comm]; rfl) h e
theorem zt_18 : ∀ (j i : Nat) (b : UInt8), zl_18[j]? = some b → i = 1152 + j → code.data.toList[i]? = some b := fun j i b h e => zl_s (l := zl_17) (q := 1088) zt_17 (fun j => by rw [Nat.add_comm]; rfl) h e
theorem zt_19 : ∀ (j i : Nat) (b : UInt8), zl_19[j]? = some b → i = 1216 + j → code.data.toList[i]? = some b := fun j i b h e => zl_s (l := zl_18) (q := 1152) zt_18 (fun j => by rw [Nat.add_comm]; rfl) h e
theorem zt_20 : ∀ (j i : Nat) (b : UInt8), zl_20[j]? = some b → i = 1280 + j → code.data.toList[i]? = some b := fun j i b h e => zl_s (l := zl_19) (q := 1216) zt_19 (fun j => by rw [Nat.add_comm]; rfl) h e
theorem zt_21 : ∀ (j i : Nat) (b : UInt8), zl_21[j]? = some b → i = 1344 + j → code.data.toList[i]? = some b := fun j i b h e => zl_s (l := zl_20) (q := 1280) zt_20 (fun j => by rw [Nat.add_comm]; rfl) h e
theorem zt_22 : ∀ (j i : Nat) (b : UInt8), zl_22[j]? = some b → i = 1408 + j → code.data.toList[i]? = some b := fun j i b h e => zl_s (l := zl_21) (q := 1344) zt_21 (fun j => by rw [Nat.add_comm]; rfl) h e
theorem zt_23 : ∀ (j i : Nat) (b : UInt8), zl_23[j]? = some b → i = 1472 + j → code.data.toList[i]? = some b := fun j i b h e => zl_s (l := zl_22) (q := 1408) zt_22 (fun j => by rw [Nat.add_comm]; rfl) h e
theorem zt_24 : ∀ (j i : Nat) (b : UInt8), zl_24[j]? = some b → i = 1536 + j → code.data.toList[i]? = some b := fun j i b h e => zl_s (l := zl_23) (q := 1472) zt_23 (fun j => by rw [Nat.add_comm]; rfl) h e
theorem zt_25 : ∀ (j i : Nat) (b : UInt8), zl_25[j]? = some b → i = 1600 + j → code.data.toList[i]? = some b := fun j i b h e => zl_s (l := zl_24) (q := 1536) zt_24 (fun j => by rw [Nat.add_comm]; rfl) h e
theorem zt_26 : ∀ (j i : Nat) (b : UInt8), zl_26[j]? = some b → i = 1664 + j → code.data.toList[i]? = some b := fun j i b h e => zl_s (l := zl_25) (q := 1600) zt_25 (fun j => by rw [Nat.add_comm]; rfl) h e
theorem zt_27 : ∀ (j i : Nat) (b : UInt8), zl_27[j]? = some b → i = 1728 + j → code.data.toList[i]? = some b := fun j i b h e => zl_s (l := zl_26) (q := 1664) zt_26 (fun j => by rw [Nat.add_comm]; rfl) h e
theorem zt_28 : ∀ (j i : Nat) (b : UInt8), zl_28[j]? = some b → i = 1792 + j → code.data.toList[i]? = some b := fun j i b h e => zl_s (l := zl_27) (q := 1728) zt_27 (fun j => by rw [Nat.add_comm]; rfl) h e
theorem zy_16 : code.data.toList[16]? = some 4 := zt_0 16 16 4 rfl rfl
theorem zy_20 : code.data.toList[20]? = some 3 := zt_0 20 20 3 rfl rfl
theorem zy_23 : code.data.toList[23]? = some 21 := zt_0 23 23 21 rfl rfl
theorem zy_24 : code.data.toList[24]? = some 4 := zt_0 24 24 4 rfl rfl
theorem zy_25 : code.data.toList[25]? = some 42 := zt_0 25 25 42 rfl rfl
theorem zy_33 : code.data.toList[33]? = some 42 := zt_0 33 33 42 rfl rfl
theorem zy_34 : code.data.toList[34]? = some 21 := zt_0 34 34 21 rfl rfl
theorem zy_35 : code.data.toList[35]? = some 4 := zt_0 35 35 4 rfl rfl
theorem zy_36 : code.data.toList[36]? = some 46 := zt_0 36 36 46 rfl rfl
theorem zy_248 : code.data.toList[248]? = some 43 := zt_3 56 248 43 rfl rfl
theorem zy_249 : code.data.toList[249]? = some 42 := zt_3 57 249 42 rfl rfl
theorem zy_250 : code.data.toList[250]? = some 21 := zt_3 58 250 21 rfl rfl
theorem zy_251 : code.data.toList[251]? = some 4 := zt_3 59 251 4 rfl rfl
theorem zy_252 : code.data.toList[252]? = some 4 := zt_3 60 252 4 rfl rfl
theorem zy_253 : code.data.toList[253]? = some 96 := zt_3 61 253 96 rfl rfl
theorem zy_254 : code.data.toList[254]? = some 46 := zt_3 62 254 46 rfl rfl
theorem zy_255 : code.data.toList[255]? = some 42 := zt_3 63 255 42 rfl rfl
theorem zy_256 : code.data.toList[256]? = some 21 := zt_4 0 256 21 rfl rfl
theorem zy_257 : code.data.toList[257]? = some 4 := zt_4 1 257 4 rfl rfl
theorem zy_258 : code.data.toList[258]? = some 5 := zt_4 2 258 5 rfl rfl
theorem zy_259 : code.data.toList[259]? = some 96 := zt_4 3 259 96 rfl rfl
theorem zy_260 : code.data.toList[260]? = some 46 := zt_4 4 260 46 rfl rfl
theorem zy_261 : code.data.toList[261]? = some 42 := zt_4 5 261 42 rfl rfl
theorem zy_262 : code.data.toList[262]? = some 21 := zt_4 6 262 21 rfl rfl
theorem zy_263 : code.data.toList[263]? = some 4 := zt_4 7 263 4 rfl rfl
theorem zy_264 : code.data.toList[264]? = some 6 := zt_4 8 264 6 rfl rfl
theorem zy_265 : code.data.toList[265]? = some 96 := zt_4 9 265 96 rfl rfl
theorem zy_266 : code.data.toList[266]? = some 46 := zt_4 10 266 46 rfl rfl
theorem zy_267 : code.data.toList[267]? = some 42 := zt_4 11 267 42 rfl rfl
theorem zy_268 : code.data.toList[268]? = some 21 := zt_4 12 268 21 rfl rfl
theorem zy_269 : code.data.toList[269]? = some 4 := zt_4 13 269 4 rfl rfl
theorem zy_270 : code.data.toList[270]? = some 7 := zt_4 14 270 7 rfl rfl
theorem zy_271 : code.data.toList[271]? = some 96 := zt_4 15 271 96 rfl rfl
theorem zy_272 : code.data.toList[272]? = some 46 := zt_4 16 272 46 rfl rfl
theorem zy_273 : code.data.toList[273]? = some 42 := zt_4 17 273 42 rfl rfl
theorem zy_274 : code.data.toList[274]? = some 21 := zt_4 18 274 21 rfl rfl
theorem zy_275 : code.data.toList[275]? = some 4 := zt_4 19 275 4 rfl rfl
theorem zy_276 : code.data.toList[276]? = some 8 := zt_4 20 276 8 rfl rfl
theorem zy_277 : code.data.toList[277]? = some 96 := zt_4 21 277 96 rfl rfl
theorem zy_278 : code.data.toList[278]? = some 46 := zt_4 22 278 46 rfl rfl
theorem zy_279 : code.data.toList[279]? = some 182 := zt_4 23 279 182 rfl rfl
theorem zy_280 : code.data.toList[280]? = some 0 := zt_4 24 280 0 rfl rfl
theorem zy_281 : code.data.toList[281]? = some 19 := zt_4 25 281 19 rfl rfl
theorem zy_282 : code.data.toList[282]? = some 87 := zt_4 26 282 87 rfl rfl
theorem zy_283 : code.data.toList[283]? = some 44 := zt_4 27 283 44 rfl rfl
theorem zy_284 : code.data.toList[284]? = some 42 := zt_4 28 284 42 rfl rfl
theorem zy_285 : code.data.toList[285]? = some 21 := zt_4 29 285 21 rfl rfl
theorem zy_286 : code.data.toList[286]? = some 4 := zt_4 30 286 4 rfl rfl
theorem zy_287 : code.data.toList[287]? = some 4 := zt_4 31 287 4 rfl rfl
theorem zy_288 : code.data.toList[288]? = some 96 := zt_4 32 288 96 rfl rfl
theorem zy_289 : code.data.toList[289]? = some 46 := zt_4 33 289 46 rfl rfl
theorem zy_290 : code.data.toList[290]? = some 42 := zt_4 34 290 42 rfl rfl
theorem zy_291 : code.data.toList[291]? = some 21 := zt_4 35 291 21 rfl rfl
theorem zy_292 : code.data.toList[292]? = some 4 := zt_4 36 292 4 rfl rfl
theorem zy_293 : code.data.toList[293]? = some 5 := zt_4 37 293 5 rfl rfl
theorem zy_294 : code.data.toList[294]? = some 96 := zt_4 38 294 96 rfl rfl
theorem zy_295 : code.data.toList[295]? = some 46 := zt_4 39 295 46 rfl rfl
theorem zy_296 : code.data.toList[296]? = some 42 := zt_4 40 296 42 rfl rfl
theorem zy_297 : code.data.toList[297]? = some 21 := zt_4 41 297 21 rfl rfl
theorem zy_298 : code.data.toList[298]? = some 4 := zt_4 42 298 4 rfl rfl
theorem zy_299 : code.data.toList[299]? = some 6 := zt_4 43 299 6 rfl rfl
theorem zy_300 : code.data.toList[300]? = some 96 := zt_4 44 300 96 rfl rfl
theorem zy_301 : code.data.toList[301]? = some 46 := zt_4 45 301 46 rfl rfl
theorem zy_302 : code.data.toList[302]? = some 42 := zt_4 46 302 42 rfl rfl
theorem zy_303 : code.data.toList[303]? = some 21 := zt_4 47 303 21 rfl rfl
theorem zy_304 : code.data.toList[304]? = some 4 := zt_4 48 304 4 rfl rfl
theorem zy_305 : code.data.toList[305]? = some 7 := zt_4 49 305 7 rfl rfl
theorem zy_306 : code.data.toList[306]? = some 96 := zt_4 50 306 96 rfl rfl
theorem zy_307 : code.data.toList[307]? = some 46 := zt_4 51 307 46 rfl rfl
theorem zy_308 : code.data.toList[308]? = some 42 := zt_4 52 308 42 rfl rfl
theorem zy_309 : code.data.toList[309]? = some 21 := zt_4 53 309 21 rfl rfl
theorem zy_310 : code.data.toList[310]? = some 4 := zt_4 54 310 4 rfl rfl
theorem zy_311 : code.data.toList[311]? = some 8 := zt_4 55 311 8 rfl rfl
theorem zy_312 : code.data.toList[312]? = some 96 := zt_4 56 312 96 rfl rfl
theorem zy_313 : code.data.toList[313]? = some 46 := zt_4 57 313 46 rfl rfl
theorem zy_314 : code.data.toList[314]? = some 182 := zt_4 58 314 182 rfl rfl
theorem zy_315 : code.data.toList[315]? = some 0 := zt_4 59 315 0 rfl rfl
theorem zy_316 : code.data.toList[316]? = some 23 := zt_4 60 316 23 rfl rfl
theorem zy_317 : code.data.toList[317]? = some 87 := zt_4 61 317 87 rfl rfl
theorem zy_321 : code.data.toList[321]? = some 43 := zt_5 1 321 43 rfl rfl
theorem zy_322 : code.data.toList[322]? = some 42 := zt_5 2 322 42 rfl rfl
theorem zy_323 : code.data.toList[323]? = some 21 := zt_5 3 323 21 rfl rfl
theorem zy_324 : code.data.toList[324]? = some 4 := zt_5 4 324 4 rfl rfl
theorem zy_325 : code.data.toList[325]? = some 4 := zt_5 5 325 4 rfl rfl
theorem zy_326 : code.data.toList[326]? = some 96 := zt_5 6 326 96 rfl rfl
theorem zy_327 : code.data.toList[327]? = some 46 := zt_5 7 327 46 rfl rfl
theorem zy_328 : code.data.toList[328]? = some 182 := zt_5 8 328 182 rfl rfl
theorem zy_329 : code.data.toList[329]? = some 0 := zt_5 9 329 0 rfl rfl
theorem zy_330 : code.data.toList[330]? = some 24 := zt_5 10 330 24 rfl rfl
theorem zy_331 : code.data.toList[331]? = some 87 := zt_5 11 331 87 rfl rfl
theorem zy_332 : code.data.toList[332]? = some 44 := zt_5 12 332 44 rfl rfl
theorem zy_333 : code.data.toList[333]? = some 42 := zt_5 13 333 42 rfl rfl
theorem zy_334 : code.data.toList[334]? = some 21 := zt_5 14 334 21 rfl rfl
theorem zy_335 : code.data.toList[335]? = some 4 := zt_5 15 335 4 rfl rfl
theorem zy_336 : code.data.toList[336]? = some 4 := zt_5 16 336 4 rfl rfl
theorem zy_337 : code.data.toList[337]? = some 96 := zt_5 17 337 96 rfl rfl
theorem zy_338 : code.data.toList[338]? = some 46 := zt_5 18 338 46 rfl rfl
theorem zy_339 : code.data.toList[339]? = some 182 := zt_5 19 339 182 rfl rfl
theorem zy_340 : code.data.toList[340]? = some 0 := zt_5 20 340 0 rfl rfl
theorem zy_341 : code.data.toList[341]? = some 28 := zt_5 21 341 28 rfl rfl
theorem zy_342 : code.data.toList[342]? = some 87 := zt_5 22 342 87 rfl rfl
theorem zy_346 : code.data.toList[346]? = some 43 := zt_5 26 346 43 rfl rfl
theorem zy_347 : code.data.toList[347]? = some 42 := zt_5 27 347 42 rfl rfl
theorem zy_348 : code.data.toList[348]? = some 21 := zt_5 28 348 21 rfl rfl
theorem zy_349 : code.data.toList[349]? = some 4 := zt_5 29 349 4 rfl rfl
theorem zy_350 : code.data.toList[350]? = some 4 := zt_5 30 350 4 rfl rfl
theorem zy_351 : code.data.toList[351]? = some 96 := zt_5 31 351 96 rfl rfl
theorem zy_352 : code.data.toList[352]? = some 46 := zt_5 32 352 46 rfl rfl
theorem zy_353 : code.data.toList[353]? = some 182 := zt_5 33 353 182 rfl rfl
theorem zy_354 : code.data.toList[354]? = some 0 := zt_5 34 354 0 rfl rfl
theorem zy_355 : code.data.toList[355]? = some 29 := zt_5 35 355 29 rfl rfl
theorem zy_356 : code.data.toList[356]? = some 87 := zt_5 36 356 87 rfl rfl
theorem zy_357 : code.data.toList[357]? = some 44 := zt_5 37 357 44 rfl rfl
theorem zy_358 : code.data.toList[358]? = some 42 := zt_5 38 358 42 rfl rfl
theorem zy_359 : code.data.toList[359]? = some 21 := zt_5 39 359 21 rfl rfl
theorem zy_360 : code.data.toList[360]? = some 4 := zt_5 40 360 4 rfl rfl
theorem zy_361 : code.data.toList[361]? = some 4 := zt_5 41 361 4 rfl rfl
theorem zy_362 : code.data.toList[362]? = some 96 := zt_5 42 362 96 rfl rfl
theorem zy_363 : code.data.toList[363]? = some 46 := zt_5 43 363 46 rfl rfl
theorem zy_364 : code.data.toList[364]? = some 182 := zt_5 44 364 182 rfl rfl
theorem zy_365 : code.data.toList[365]? = some 0 := zt_5 45 365 0 rfl rfl
theorem zy_366 : code.data.toList[366]? = some 33 := zt_5 46 366 33 rfl rfl
theorem zy_367 : code.data.toList[367]? = some 87 := zt_5 47 367 87 rfl rfl
theorem zy_371 : code.data.toList[371]? = some 43 := zt_5 51 371 43 rfl rfl
theorem zy_372 : code.data.toList[372]? = some 42 := zt_5 52 372 42 rfl rfl
theorem zy_373 : code.data.toList[373]? = some 21 := zt_5 53 373 21 rfl rfl
theorem zy_374 : code.data.toList[374]? = some 4 := zt_5 54 374 4 rfl rfl
theorem zy_375 : code.data.toList[375]? = some 4 := zt_5 55 375 4 rfl rfl
theorem zy_376 : code.data.toList[376]? = some 96 := zt_5 56 376 96 rfl rfl
theorem zy_377 : code.data.toList[377]? = some 46 := zt_5 57 377 46 rfl rfl
theorem zy_378 : code.data.toList[378]? = some 182 := zt_5 58 378 182 rfl rfl
theorem zy_379 : code.data.toList[379]? = some 0 := zt_5 59 379 0 rfl rfl
theorem zy_380 : code.data.toList[380]? = some 34 := zt_5 60 380 34 rfl rfl
theorem zy_381 : code.data.toList[381]? = some 87 := zt_5 61 381 87 rfl rfl
theorem zy_382 : code.data.toList[382]? = some 44 := zt_5 62 382 44 rfl rfl
theorem zy_383 : code.data.toList[383]? = some 42 := zt_5 63 383 42 rfl rfl
theorem zy_384 : code.data.toList[384]? = some 21 := zt_6 0 384 21 rfl rfl
theorem zy_385 : code.data.toList[385]? = some 4 := zt_6 1 385 4 rfl rfl
theorem zy_386 : code.data.toList[386]? = some 4 := zt_6 2 386 4 rfl rfl
theorem zy_387 : code.data.toList[387]? = some 96 := zt_6 3 387 96 rfl rfl
theorem zy_388 : code.data.toList[388]? = some 46 := zt_6 4 388 46 rfl rfl
theorem zy_389 : code.data.toList[389]? = some 182 := zt_6 5 389 182 rfl rfl
theorem zy_390 : code.data.toList[390]? = some 0 := zt_6 6 390 0 rfl rfl
theorem zy_391 : code.data.toList[391]? = some 37 := zt_6 7 391 37 rfl rfl
theorem zy_392 : code.data.toList[392]? = some 87 := zt_6 8 392 87 rfl rfl
theorem zy_396 : code.data.toList[396]? = some 43 := zt_6 12 396 43 rfl rfl
theorem zy_397 : code.data.toList[397]? = some 42 := zt_6 13 397 42 rfl rfl
theorem zy_398 : code.data.toList[398]? = some 21 := zt_6 14 398 21 rfl rfl
theorem zy_399 : code.data.toList[399]? = some 4 := zt_6 15 399 4 rfl rfl
theorem zy_400 : code.data.toList[400]? = some 4 := zt_6 16 400 4 rfl rfl
theorem zy_401 : code.data.toList[401]? = some 96 := zt_6 17 401 96 rfl rfl
theorem zy_402 : code.data.toList[402]? = some 46 := zt_6 18 402 46 rfl rfl
theorem zy_403 : code.data.toList[403]? = some 182 := zt_6 19 403 182 rfl rfl
theorem zy_404 : code.data.toList[404]? = some 0 := zt_6 20 404 0 rfl rfl
theorem zy_405 : code.data.toList[405]? = some 38 := zt_6 21 405 38 rfl rfl
theorem zy_406 : code.data.toList[406]? = some 87 := zt_6 22 406 87 rfl rfl
theorem zy_407 : code.data.toList[407]? = some 44 := zt_6 23 407 44 rfl rfl
theorem zy_408 : code.data.toList[408]? = some 42 := zt_6 24 408 42 rfl rfl
theorem zy_409 : code.data.toList[409]? = some 21 := zt_6 25 409 21 rfl rfl
theorem zy_410 : code.data.toList[410]? = some 4 := zt_6 26 410 4 rfl rfl
theorem zy_411 : code.data.toList[411]? = some 4 := zt_6 27 411 4 rfl rfl
theorem zy_412 : code.data.toList[412]? = some 96 := zt_6 28 412 96 rfl rfl
theorem zy_413 : code.data.toList[413]? = some 46 := zt_6 29 413 46 rfl rfl
theorem zy_414 : code.data.toList[414]? = some 182 := zt_6 30 414 182 rfl rfl
theorem zy_415 : code.data.toList[415]? = some 0 := zt_6 31 415 0 rfl rfl
theorem zy_416 : code.data.toList[416]? = some 41 := zt_6 32 416 41 rfl rfl
theorem zy_417 : code.data.toList[417]? = some 87 := zt_6 33 417 87 rfl rfl
theorem zy_421 : code.data.toList[421]? = some 43 := zt_6 37 421 43 rfl rfl
theorem zy_422 : code.data.toList[422]? = some 42 := zt_6 38 422 42 rfl rfl
theorem zy_423 : code.data.toList[423]? = some 21 := zt_6 39 423 21 rfl rfl
theorem zy_424 : code.data.toList[424]? = some 4 := zt_6 40 424 4 rfl rfl
theorem zy_425 : code.data.toList[425]? = some 4 := zt_6 41 425 4 rfl rfl
theorem zy_426 : code.data.toList[426]? = some 96 := zt_6 42 426 96 rfl rfl
theorem zy_427 : code.data.toList[427]? = some 46 := zt_6 43 427 46 rfl rfl
theorem zy_428 : code.data.toList[428]? = some 42 := zt_6 44 428 42 rfl rfl
theorem zy_429 : code.data.toList[429]? = some 21 := zt_6 45 429 21 rfl rfl
theorem zy_430 : code.data.toList[430]? = some 4 := zt_6 46 430 4 rfl rfl
theorem zy_431 : code.data.toList[431]? = some 5 := zt_6 47 431 5 rfl rfl
theorem zy_432 : code.data.toList[432]? = some 96 := zt_6 48 432 96 rfl rfl
theorem zy_433 : code.data.toList[433]? = some 46 := zt_6 49 433 46 rfl rfl
theorem zy_434 : code.data.toList[434]? = some 45 := zt_6 50 434 45 rfl rfl
theorem zy_440 : code.data.toList[440]? = some 44 := zt_6 56 440 44 rfl rfl
theorem zy_441 : code.data.toList[441]? = some 42 := zt_6 57 441 42 rfl rfl
theorem zy_442 : code.data.toList[442]? = some 21 := zt_6 58 442 21 rfl rfl
theorem zy_443 : code.data.toList[443]? = some 4 := zt_6 59 443 4 rfl rfl
theorem zy_444 : code.data.toList[444]? = some 4 := zt_6 60 444 4 rfl rfl
theorem zy_445 : code.data.toList[445]? = some 96 := zt_6 61 445 96 rfl rfl
theorem zy_446 : code.data.toList[446]? = some 46 := zt_6 62 446 46 rfl rfl
theorem zy_447 : code.data.toList[447]? = some 42 := zt_6 63 447 42 rfl rfl
theorem zy_448 : code.data.toList[448]? = some 21 := zt_7 0 448 21 rfl rfl
theorem zy_449 : code.data.toList[449]? = some 4 := zt_7 1 449 4 rfl rfl
theorem zy_450 : code.data.toList[450]? = some 5 := zt_7 2 450 5 rfl rfl
theorem zy_451 : code.data.toList[451]? = some 96 := zt_7 3 451 96 rfl rfl
theorem zy_452 : code.data.toList[452]? = some 46 := zt_7 4 452 46 rfl rfl
theorem zy_453 : code.data.toList[453]? = some 182 := zt_7 5 453 182 rfl rfl
theorem zy_454 : code.data.toList[454]? = some 0 := zt_7 6 454 0 rfl rfl
theorem zy_455 : code.data.toList[455]? = some 47 := zt_7 7 455 47 rfl rfl
theorem zy_458 : code.data.toList[458]? = some 44 := zt_7 10 458 44 rfl rfl
theorem zy_459 : code.data.toList[459]? = some 182 := zt_7 11 459 182 rfl rfl
theorem zy_460 : code.data.toList[460]? = some 0 := zt_7 12 460 0 rfl rfl
theorem zy_461 : code.data.toList[461]? = some 48 := zt_7 13 461 48 rfl rfl
theorem zy_462 : code.data.toList[462]? = some 21 := zt_7 14 462 21 rfl rfl
theorem zy_463 : code.data.toList[463]? = some 5 := zt_7 15 463 5 rfl rfl
theorem zy_469 : code.data.toList[469]? = some 21 := zt_7 21 469 21 rfl rfl
theorem zy_470 : code.data.toList[470]? = some 5 := zt_7 22 470 5 rfl rfl
theorem zy_474 : code.data.toList[474]? = some 45 := zt_7 26 474 45 rfl rfl
theorem zy_475 : code.data.toList[475]? = some 3 := zt_7 27 475 3 rfl rfl
theorem zy_477 : code.data.toList[477]? = some 21 := zt_7 29 477 21 rfl rfl
theorem zy_478 : code.data.toList[478]? = some 6 := zt_7 30 478 6 rfl rfl
theorem zy_489 : code.data.toList[489]? = some 43 := zt_7 41 489 43 rfl rfl
theorem zy_490 : code.data.toList[490]? = some 42 := zt_7 42 490 42 rfl rfl
theorem zy_491 : code.data.toList[491]? = some 21 := zt_7 43 491 21 rfl rfl
theorem zy_492 : code.data.toList[492]? = some 4 := zt_7 44 492 4 rfl rfl
theorem zy_493 : code.data.toList[493]? = some 4 := zt_7 45 493 4 rfl rfl
theorem zy_494 : code.data.toList[494]? = some 96 := zt_7 46 494 96 rfl rfl
theorem zy_495 : code.data.toList[495]? = some 46 := zt_7 47 495 46 rfl rfl
theorem zy_496 : code.data.toList[496]? = some 42 := zt_7 48 496 42 rfl rfl
theorem zy_497 : code.data.toList[497]? = some 21 := zt_7 49 497 21 rfl rfl
theorem zy_498 : code.data.toList[498]? = some 4 := zt_7 50 498 4 rfl rfl
theorem zy_499 : code.data.toList[499]? = some 5 := zt_7 51 499 5 rfl rfl
theorem zy_500 : code.data.toList[500]? = some 96 := zt_7 52 500 96 rfl rfl
theorem zy_501 : code.data.toList[501]? = some 46 := zt_7 53 501 46 rfl rfl
theorem zy_502 : code.data.toList[502]? = some 182 := zt_7 54 502 182 rfl rfl
theorem zy_503 : code.data.toList[503]? = some 0 := zt_7 55 503 0 rfl rfl
theorem zy_504 : code.data.toList[504]? = some 52 := zt_7 56 504 52 rfl rfl
theorem zy_505 : code.data.toList[505]? = some 87 := zt_7 57 505 87 rfl rfl
theorem zy_506 : code.data.toList[506]? = some 44 := zt_7 58 506 44 rfl rfl
theorem zy_507 : code.data.toList[507]? = some 42 := zt_7 59 507 42 rfl rfl
theorem zy_508 : code.data.toList[508]? = some 21 := zt_7 60 508 21 rfl rfl
theorem zy_509 : code.data.toList[509]? = some 4 := zt_7 61 509 4 rfl rfl
theorem zy_510 : code.data.toList[510]? = some 4 := zt_7 62 510 4 rfl rfl
theorem zy_511 : code.data.toList[511]? = some 96 := zt_7 63 511 96 rfl rfl
theorem zy_512 : code.data.toList[512]? = some 46 := zt_8 0 512 46 rfl rfl
theorem zy_513 : code.data.toList[513]? = some 42 := zt_8 1 513 42 rfl rfl
theorem zy_514 : code.data.toList[514]? = some 21 := zt_8 2 514 21 rfl rfl
theorem zy_515 : code.data.toList[515]? = some 4 := zt_8 3 515 4 rfl rfl
theorem zy_516 : code.data.toList[516]? = some 5 := zt_8 4 516 5 rfl rfl
theorem zy_517 : code.data.toList[517]? = some 96 := zt_8 5 517 96 rfl rfl
theorem zy_518 : code.data.toList[518]? = some 46 := zt_8 6 518 46 rfl rfl
theorem zy_519 : code.data.toList[519]? = some 182 := zt_8 7 519 182 rfl rfl
theorem zy_520 : code.data.toList[520]? = some 0 := zt_8 8 520 0 rfl rfl
theorem zy_521 : code.data.toList[521]? = some 55 := zt_8 9 521 55 rfl rfl
theorem zy_522 : code.data.toList[522]? = some 87 := zt_8 10 522 87 rfl rfl
theorem zy_526 : code.data.toList[526]? = some 43 := zt_8 14 526 43 rfl rfl
theorem zy_527 : code.data.toList[527]? = some 42 := zt_8 15 527 42 rfl rfl
theorem zy_528 : code.data.toList[528]? = some 21 := zt_8 16 528 21 rfl rfl
theorem zy_529 : code.data.toList[529]? = some 4 := zt_8 17 529 4 rfl rfl
theorem zy_530 : code.data.toList[530]? = some 4 := zt_8 18 530 4 rfl rfl
theorem zy_531 : code.data.toList[531]? = some 96 := zt_8 19 531 96 rfl rfl
theorem zy_532 : code.data.toList[532]? = some 46 := zt_8 20 532 46 rfl rfl
theorem zy_533 : code.data.toList[533]? = some 182 := zt_8 21 533 182 rfl rfl
theorem zy_534 : code.data.toList[534]? = some 0 := zt_8 22 534 0 rfl rfl
theorem zy_535 : code.data.toList[535]? = some 56 := zt_8 23 535 56 rfl rfl
theorem zy_536 : code.data.toList[536]? = some 87 := zt_8 24 536 87 rfl rfl
theorem zy_537 : code.data.toList[537]? = some 44 := zt_8 25 537 44 rfl rfl
theorem zy_538 : code.data.toList[538]? = some 42 := zt_8 26 538 42 rfl rfl
theorem zy_539 : code.data.toList[539]? = some 21 := zt_8 27 539 21 rfl rfl
theorem zy_540 : code.data.toList[540]? = some 4 := zt_8 28 540 4 rfl rfl
theorem zy_541 : code.data.toList[541]? = some 4 := zt_8 29 541 4 rfl rfl
theorem zy_542 : code.data.toList[542]? = some 96 := zt_8 30 542 96 rfl rfl
theorem zy_543 : code.data.toList[543]? = some 46 := zt_8 31 543 46 rfl rfl
theorem zy_544 : code.data.toList[544]? = some 182 := zt_8 32 544 182 rfl rfl
theorem zy_545 : code.data.toList[545]? = some 0 := zt_8 33 545 0 rfl rfl
theorem zy_546 : code.data.toList[546]? = some 59 := zt_8 34 546 59 rfl rfl
theorem zy_547 : code.data.toList[547]? = some 87 := zt_8 35 547 87 rfl rfl
theorem zy_551 : code.data.toList[551]? = some 43 := zt_8 39 551 43 rfl rfl
theorem zy_552 : code.data.toList[552]? = some 42 := zt_8 40 552 42 rfl rfl
theorem zy_553 : code.data.toList[553]? = some 21 := zt_8 41 553 21 rfl rfl
theorem zy_554 : code.data.toList[554]? = some 4 := zt_8 42 554 4 rfl rfl
theorem zy_555 : code.data.toList[555]? = some 4 := zt_8 43 555 4 rfl rfl
theorem zy_556 : code.data.toList[556]? = some 96 := zt_8 44 556 96 rfl rfl
theorem zy_557 : code.data.toList[557]? = some 46 := zt_8 45 557 46 rfl rfl
theorem zy_558 : code.data.toList[558]? = some 42 := zt_8 46 558 42 rfl rfl
theorem zy_559 : code.data.toList[559]? = some 21 := zt_8 47 559 21 rfl rfl
theorem zy_560 : code.data.toList[560]? = some 4 := zt_8 48 560 4 rfl rfl
theorem zy_561 : code.data.toList[561]? = some 5 := zt_8 49 561 5 rfl rfl
theorem zy_562 : code.data.toList[562]? = some 96 := zt_8 50 562 96 rfl rfl
theorem zy_563 : code.data.toList[563]? = some 46 := zt_8 51 563 46 rfl rfl
theorem zy_564 : code.data.toList[564]? = some 182 := zt_8 52 564 182 rfl rfl
theorem zy_565 : code.data.toList[565]? = some 0 := zt_8 53 565 0 rfl rfl
theorem zy_566 : code.data.toList[566]? = some 60 := zt_8 54 566 60 rfl rfl
theorem zy_567 : code.data.toList[567]? = some 87 := zt_8 55 567 87 rfl rfl
theorem zy_568 : code.data.toList[568]? = some 44 := zt_8 56 568 44 rfl rfl
theorem zy_569 : code.data.toList[569]? = some 42 := zt_8 57 569 42 rfl rfl
theorem zy_570 : code.data.toList[570]? = some 21 := zt_8 58 570 21 rfl rfl
theorem zy_571 : code.data.toList[571]? = some 4 := zt_8 59 571 4 rfl rfl
theorem zy_572 : code.data.toList[572]? = some 4 := zt_8 60 572 4 rfl rfl
theorem zy_573 : code.data.toList[573]? = some 96 := zt_8 61 573 96 rfl rfl
theorem zy_574 : code.data.toList[574]? = some 46 := zt_8 62 574 46 rfl rfl
theorem zy_575 : code.data.toList[575]? = some 42 := zt_8 63 575 42 rfl rfl
theorem zy_576 : code.data.toList[576]? = some 21 := zt_9 0 576 21 rfl rfl
theorem zy_577 : code.data.toList[577]? = some 4 := zt_9 1 577 4 rfl rfl
theorem zy_578 : code.data.toList[578]? = some 5 := zt_9 2 578 5 rfl rfl
theorem zy_579 : code.data.toList[579]? = some 96 := zt_9 3 579 96 rfl rfl
theorem zy_580 : code.data.toList[580]? = some 46 := zt_9 4 580 46 rfl rfl
theorem zy_581 : code.data.toList[581]? = some 182 := zt_9 5 581 182 rfl rfl
theorem zy_582 : code.data.toList[582]? = some 0 := zt_9 6 582 0 rfl rfl
theorem zy_583 : code.data.toList[583]? = some 63 := zt_9 7 583 63 rfl rfl
theorem zy_584 : code.data.toList[584]? = some 87 := zt_9 8 584 87 rfl rfl
theorem zy_588 : code.data.toList[588]? = some 43 := zt_9 12 588 43 rfl rfl
theorem zy_589 : code.data.toList[589]? = some 42 := zt_9 13 589 42 rfl rfl
theorem zy_590 : code.data.toList[590]? = some 21 := zt_9 14 590 21 rfl rfl
theorem zy_591 : code.data.toList[591]? = some 4 := zt_9 15 591 4 rfl rfl
theorem zy_592 : code.data.toList[592]? = some 4 := zt_9 16 592 4 rfl rfl
theorem zy_593 : code.data.toList[593]? = some 96 := zt_9 17 593 96 rfl rfl
theorem zy_594 : code.data.toList[594]? = some 46 := zt_9 18 594 46 rfl rfl
theorem zy_595 : code.data.toList[595]? = some 42 := zt_9 19 595 42 rfl rfl
theorem zy_596 : code.data.toList[596]? = some 21 := zt_9 20 596 21 rfl rfl
theorem zy_597 : code.data.toList[597]? = some 4 := zt_9 21 597 4 rfl rfl
theorem zy_598 : code.data.toList[598]? = some 5 := zt_9 22 598 5 rfl rfl
theorem zy_599 : code.data.toList[599]? = some 96 := zt_9 23 599 96 rfl rfl
theorem zy_600 : code.data.toList[600]? = some 46 := zt_9 24 600 46 rfl rfl
theorem zy_601 : code.data.toList[601]? = some 42 := zt_9 25 601 42 rfl rfl
theorem zy_602 : code.data.toList[602]? = some 21 := zt_9 26 602 21 rfl rfl
theorem zy_603 : code.data.toList[603]? = some 4 := zt_9 27 603 4 rfl rfl
theorem zy_604 : code.data.toList[604]? = some 6 := zt_9 28 604 6 rfl rfl
theorem zy_605 : code.data.toList[605]? = some 96 := zt_9 29 605 96 rfl rfl
theorem zy_606 : code.data.toList[606]? = some 46 := zt_9 30 606 46 rfl rfl
theorem zy_607 : code.data.toList[607]? = some 182 := zt_9 31 607 182 rfl rfl
theorem zy_608 : code.data.toList[608]? = some 0 := zt_9 32 608 0 rfl rfl
theorem zy_609 : code.data.toList[609]? = some 64 := zt_9 33 609 64 rfl rfl
theorem zy_610 : code.data.toList[610]? = some 87 := zt_9 34 610 87 rfl rfl
theorem zy_611 : code.data.toList[611]? = some 44 := zt_9 35 611 44 rfl rfl
theorem zy_612 : code.data.toList[612]? = some 42 := zt_9 36 612 42 rfl rfl
theorem zy_613 : code.data.toList[613]? = some 21 := zt_9 37 613 21 rfl rfl
theorem zy_614 : code.data.toList[614]? = some 4 := zt_9 38 614 4 rfl rfl
theorem zy_615 : code.data.toList[615]? = some 4 := zt_9 39 615 4 rfl rfl
theorem zy_616 : code.data.toList[616]? = some 96 := zt_9 40 616 96 rfl rfl
theorem zy_617 : code.data.toList[617]? = some 46 := zt_9 41 617 46 rfl rfl
theorem zy_618 : code.data.toList[618]? = some 42 := zt_9 42 618 42 rfl rfl
theorem zy_619 : code.data.toList[619]? = some 21 := zt_9 43 619 21 rfl rfl
theorem zy_620 : code.data.toList[620]? = some 4 := zt_9 44 620 4 rfl rfl
theorem zy_621 : code.data.toList[621]? = some 5 := zt_9 45 621 5 rfl rfl
theorem zy_622 : code.data.toList[622]? = some 96 := zt_9 46 622 96 rfl rfl
theorem zy_623 : code.data.toList[623]? = some 46 := zt_9 47 623 46 rfl rfl
theorem zy_624 : code.data.toList[624]? = some 42 := zt_9 48 624 42 rfl rfl
theorem zy_625 : code.data.toList[625]? = some 21 := zt_9 49 625 21 rfl rfl
theorem zy_626 : code.data.toList[626]? = some 4 := zt_9 50 626 4 rfl rfl
theorem zy_627 : code.data.toList[627]? = some 6 := zt_9 51 627 6 rfl rfl
theorem zy_628 : code.data.toList[628]? = some 96 := zt_9 52 628 96 rfl rfl
theorem zy_629 : code.data.toList[629]? = some 46 := zt_9 53 629 46 rfl rfl
theorem zy_630 : code.data.toList[630]? = some 182 := zt_9 54 630 182 rfl rfl
theorem zy_631 : code.data.toList[631]? = some 0 := zt_9 55 631 0 rfl rfl
theorem zy_632 : code.data.toList[632]? = some 68 := zt_9 56 632 68 rfl rfl
theorem zy_633 : code.data.toList[633]? = some 87 := zt_9 57 633 87 rfl rfl
theorem zy_637 : code.data.toList[637]? = some 43 := zt_9 61 637 43 rfl rfl
theorem zy_638 : code.data.toList[638]? = some 42 := zt_9 62 638 42 rfl rfl
theorem zy_639 : code.data.toList[639]? = some 21 := zt_9 63 639 21 rfl rfl
theorem zy_640 : code.data.toList[640]? = some 4 := zt_10 0 640 4 rfl rfl
theorem zy_641 : code.data.toList[641]? = some 4 := zt_10 1 641 4 rfl rfl
theorem zy_642 : code.data.toList[642]? = some 96 := zt_10 2 642 96 rfl rfl
theorem zy_643 : code.data.toList[643]? = some 46 := zt_10 3 643 46 rfl rfl
theorem zy_644 : code.data.toList[644]? = some 42 := zt_10 4 644 42 rfl rfl
theorem zy_645 : code.data.toList[645]? = some 21 := zt_10 5 645 21 rfl rfl
theorem zy_646 : code.data.toList[646]? = some 4 := zt_10 6 646 4 rfl rfl
theorem zy_647 : code.data.toList[647]? = some 5 := zt_10 7 647 5 rfl rfl
theorem zy_648 : code.data.toList[648]? = some 96 := zt_10 8 648 96 rfl rfl
theorem zy_649 : code.data.toList[649]? = some 46 := zt_10 9 649 46 rfl rfl
theorem zy_650 : code.data.toList[650]? = some 182 := zt_10 10 650 182 rfl rfl
theorem zy_651 : code.data.toList[651]? = some 0 := zt_10 11 651 0 rfl rfl
theorem zy_652 : code.data.toList[652]? = some 69 := zt_10 12 652 69 rfl rfl
theorem zy_653 : code.data.toList[653]? = some 87 := zt_10 13 653 87 rfl rfl
theorem zy_654 : code.data.toList[654]? = some 44 := zt_10 14 654 44 rfl rfl
theorem zy_655 : code.data.toList[655]? = some 42 := zt_10 15 655 42 rfl rfl
theorem zy_656 : code.data.toList[656]? = some 21 := zt_10 16 656 21 rfl rfl
theorem zy_657 : code.data.toList[657]? = some 4 := zt_10 17 657 4 rfl rfl
theorem zy_658 : code.data.toList[658]? = some 4 := zt_10 18 658 4 rfl rfl
theorem zy_659 : code.data.toList[659]? = some 96 := zt_10 19 659 96 rfl rfl
theorem zy_660 : code.data.toList[660]? = some 46 := zt_10 20 660 46 rfl rfl
theorem zy_661 : code.data.toList[661]? = some 42 := zt_10 21 661 42 rfl rfl
theorem zy_662 : code.data.toList[662]? = some 21 := zt_10 22 662 21 rfl rfl
theorem zy_663 : code.data.toList[663]? = some 4 := zt_10 23 663 4 rfl rfl
theorem zy_664 : code.data.toList[664]? = some 5 := zt_10 24 664 5 rfl rfl
theorem zy_665 : code.data.toList[665]? = some 96 := zt_10 25 665 96 rfl rfl
theorem zy_666 : code.data.toList[666]? = some 46 := zt_10 26 666 46 rfl rfl
theorem zy_667 : code.data.toList[667]? = some 182 := zt_10 27 667 182 rfl rfl
theorem zy_668 : code.data.toList[668]? = some 0 := zt_10 28 668 0 rfl rfl
theorem zy_669 : code.data.toList[669]? = some 72 := zt_10 29 669 72 rfl rfl
theorem zy_670 : code.data.toList[670]? = some 87 := zt_10 30 670 87 rfl rfl
theorem zy_674 : code.data.toList[674]? = some 43 := zt_10 34 674 43 rfl rfl
theorem zy_675 : code.data.toList[675]? = some 42 := zt_10 35 675 42 rfl rfl
theorem zy_676 : code.data.toList[676]? = some 21 := zt_10 36 676 21 rfl rfl
theorem zy_677 : code.data.toList[677]? = some 4 := zt_10 37 677 4 rfl rfl
theorem zy_678 : code.data.toList[678]? = some 4 := zt_10 38 678 4 rfl rfl
theorem zy_679 : code.data.toList[679]? = some 96 := zt_10 39 679 96 rfl rfl
theorem zy_680 : code.data.toList[680]? = some 46 := zt_10 40 680 46 rfl rfl
theorem zy_681 : code.data.toList[681]? = some 42 := zt_10 41 681 42 rfl rfl
theorem zy_682 : code.data.toList[682]? = some 21 := zt_10 42 682 21 rfl rfl
theorem zy_683 : code.data.toList[683]? = some 4 := zt_10 43 683 4 rfl rfl
theorem zy_684 : code.data.toList[684]? = some 5 := zt_10 44 684 5 rfl rfl
theorem zy_685 : code.data.toList[685]? = some 96 := zt_10 45 685 96 rfl rfl
theorem zy_686 : code.data.toList[686]? = some 46 := zt_10 46 686 46 rfl rfl
theorem zy_687 : code.data.toList[687]? = some 182 := zt_10 47 687 182 rfl rfl
theorem zy_688 : code.data.toList[688]? = some 0 := zt_10 48 688 0 rfl rfl
theorem zy_689 : code.data.toList[689]? = some 73 := zt_10 49 689 73 rfl rfl
theorem zy_690 : code.data.toList[690]? = some 87 := zt_10 50 690 87 rfl rfl
theorem zy_691 : code.data.toList[691]? = some 44 := zt_10 51 691 44 rfl rfl
theorem zy_692 : code.data.toList[692]? = some 42 := zt_10 52 692 42 rfl rfl
theorem zy_693 : code.data.toList[693]? = some 21 := zt_10 53 693 21 rfl rfl
theorem zy_694 : code.data.toList[694]? = some 4 := zt_10 54 694 4 rfl rfl
theorem zy_695 : code.data.toList[695]? = some 4 := zt_10 55 695 4 rfl rfl
theorem zy_696 : code.data.toList[696]? = some 96 := zt_10 56 696 96 rfl rfl
theorem zy_697 : code.data.toList[697]? = some 46 := zt_10 57 697 46 rfl rfl
theorem zy_698 : code.data.toList[698]? = some 42 := zt_10 58 698 42 rfl rfl
theorem zy_699 : code.data.toList[699]? = some 21 := zt_10 59 699 21 rfl rfl
theorem zy_700 : code.data.toList[700]? = some 4 := zt_10 60 700 4 rfl rfl
theorem zy_701 : code.data.toList[701]? = some 5 := zt_10 61 701 5 rfl rfl
theorem zy_702 : code.data.toList[702]? = some 96 := zt_10 62 702 96 rfl rfl
theorem zy_703 : code.data.toList[703]? = some 46 := zt_10 63 703 46 rfl rfl
theorem zy_704 : code.data.toList[704]? = some 182 := zt_11 0 704 182 rfl rfl
theorem zy_705 : code.data.toList[705]? = some 0 := zt_11 1 705 0 rfl rfl
theorem zy_706 : code.data.toList[706]? = some 76 := zt_11 2 706 76 rfl rfl
theorem zy_707 : code.data.toList[707]? = some 87 := zt_11 3 707 87 rfl rfl
theorem zy_711 : code.data.toList[711]? = some 43 := zt_11 7 711 43 rfl rfl
theorem zy_712 : code.data.toList[712]? = some 42 := zt_11 8 712 42 rfl rfl
theorem zy_713 : code.data.toList[713]? = some 21 := zt_11 9 713 21 rfl rfl
theorem zy_714 : code.data.toList[714]? = some 4 := zt_11 10 714 4 rfl rfl
theorem zy_715 : code.data.toList[715]? = some 4 := zt_11 11 715 4 rfl rfl
theorem zy_716 : code.data.toList[716]? = some 96 := zt_11 12 716 96 rfl rfl
theorem zy_717 : code.data.toList[717]? = some 46 := zt_11 13 717 46 rfl rfl
theorem zy_718 : code.data.toList[718]? = some 182 := zt_11 14 718 182 rfl rfl
theorem zy_719 : code.data.toList[719]? = some 0 := zt_11 15 719 0 rfl rfl
theorem zy_720 : code.data.toList[720]? = some 77 := zt_11 16 720 77 rfl rfl
theorem zy_721 : code.data.toList[721]? = some 87 := zt_11 17 721 87 rfl rfl
theorem zy_722 : code.data.toList[722]? = some 44 := zt_11 18 722 44 rfl rfl
theorem zy_723 : code.data.toList[723]? = some 42 := zt_11 19 723 42 rfl rfl
theorem zy_724 : code.data.toList[724]? = some 21 := zt_11 20 724 21 rfl rfl
theorem zy_725 : code.data.toList[725]? = some 4 := zt_11 21 725 4 rfl rfl
theorem zy_726 : code.data.toList[726]? = some 4 := zt_11 22 726 4 rfl rfl
theorem zy_727 : code.data.toList[727]? = some 96 := zt_11 23 727 96 rfl rfl
theorem zy_728 : code.data.toList[728]? = some 46 := zt_11 24 728 46 rfl rfl
theorem zy_729 : code.data.toList[729]? = some 182 := zt_11 25 729 182 rfl rfl
theorem zy_730 : code.data.toList[730]? = some 0 := zt_11 26 730 0 rfl rfl
theorem zy_731 : code.data.toList[731]? = some 80 := zt_11 27 731 80 rfl rfl
theorem zy_732 : code.data.toList[732]? = some 87 := zt_11 28 732 87 rfl rfl
theorem zy_736 : code.data.toList[736]? = some 43 := zt_11 32 736 43 rfl rfl
theorem zy_737 : code.data.toList[737]? = some 42 := zt_11 33 737 42 rfl rfl
theorem zy_738 : code.data.toList[738]? = some 21 := zt_11 34 738 21 rfl rfl
theorem zy_739 : code.data.toList[739]? = some 4 := zt_11 35 739 4 rfl rfl
theorem zy_740 : code.data.toList[740]? = some 4 := zt_11 36 740 4 rfl rfl
theorem zy_741 : code.data.toList[741]? = some 96 := zt_11 37 741 96 rfl rfl
theorem zy_742 : code.data.toList[742]? = some 46 := zt_11 38 742 46 rfl rfl
theorem zy_743 : code.data.toList[743]? = some 182 := zt_11 39 743 182 rfl rfl
theorem zy_744 : code.data.toList[744]? = some 0 := zt_11 40 744 0 rfl rfl
theorem zy_745 : code.data.toList[745]? = some 81 := zt_11 41 745 81 rfl rfl
theorem zy_746 : code.data.toList[746]? = some 87 := zt_11 42 746 87 rfl rfl
theorem zy_747 : code.data.toList[747]? = some 44 := zt_11 43 747 44 rfl rfl
theorem zy_748 : code.data.toList[748]? = some 42 := zt_11 44 748 42 rfl rfl
theorem zy_749 : code.data.toList[749]? = some 21 := zt_11 45 749 21 rfl rfl
theorem zy_750 : code.data.toList[750]? = some 4 := zt_11 46 750 4 rfl rfl
theorem zy_751 : code.data.toList[751]? = some 4 := zt_11 47 751 4 rfl rfl
theorem zy_752 : code.data.toList[752]? = some 96 := zt_11 48 752 96 rfl rfl
theorem zy_753 : code.data.toList[753]? = some 46 := zt_11 49 753 46 rfl rfl
theorem zy_754 : code.data.toList[754]? = some 182 := zt_11 50 754 182 rfl rfl
theorem zy_755 : code.data.toList[755]? = some 0 := zt_11 51 755 0 rfl rfl
theorem zy_756 : code.data.toList[756]? = some 84 := zt_11 52 756 84 rfl rfl
theorem zy_757 : code.data.toList[757]? = some 87 := zt_11 53 757 87 rfl rfl
theorem zy_761 : code.data.toList[761]? = some 43 := zt_11 57 761 43 rfl rfl
theorem zy_762 : code.data.toList[762]? = some 42 := zt_11 58 762 42 rfl rfl
theorem zy_763 : code.data.toList[763]? = some 21 := zt_11 59 763 21 rfl rfl
theorem zy_764 : code.data.toList[764]? = some 4 := zt_11 60 764 4 rfl rfl
theorem zy_765 : code.data.toList[765]? = some 4 := zt_11 61 765 4 rfl rfl
theorem zy_766 : code.data.toList[766]? = some 96 := zt_11 62 766 96 rfl rfl
theorem zy_767 : code.data.toList[767]? = some 46 := zt_11 63 767 46 rfl rfl
theorem zy_768 : code.data.toList[768]? = some 182 := zt_12 0 768 182 rfl rfl
theorem zy_769 : code.data.toList[769]? = some 0 := zt_12 1 769 0 rfl rfl
theorem zy_770 : code.data.toList[770]? = some 85 := zt_12 2 770 85 rfl rfl
theorem zy_771 : code.data.toList[771]? = some 87 := zt_12 3 771 87 rfl rfl
theorem zy_772 : code.data.toList[772]? = some 44 := zt_12 4 772 44 rfl rfl
theorem zy_773 : code.data.toList[773]? = some 42 := zt_12 5 773 42 rfl rfl
theorem zy_774 : code.data.toList[774]? = some 21 := zt_12 6 774 21 rfl rfl
theorem zy_775 : code.data.toList[775]? = some 4 := zt_12 7 775 4 rfl rfl
theorem zy_776 : code.data.toList[776]? = some 4 := zt_12 8 776 4 rfl rfl
theorem zy_777 : code.data.toList[777]? = some 96 := zt_12 9 777 96 rfl rfl
theorem zy_778 : code.data.toList[778]? = some 46 := zt_12 10 778 46 rfl rfl
theorem zy_779 : code.data.toList[779]? = some 182 := zt_12 11 779 182 rfl rfl
theorem zy_780 : code.data.toList[780]? = some 0 := zt_12 12 780 0 rfl rfl
theorem zy_781 : code.data.toList[781]? = some 88 := zt_12 13 781 88 rfl rfl
theorem zy_782 : code.data.toList[782]? = some 87 := zt_12 14 782 87 rfl rfl
theorem zy_786 : code.data.toList[786]? = some 43 := zt_12 18 786 43 rfl rfl
theorem zy_787 : code.data.toList[787]? = some 42 := zt_12 19 787 42 rfl rfl
theorem zy_788 : code.data.toList[788]? = some 21 := zt_12 20 788 21 rfl rfl
theorem zy_789 : code.data.toList[789]? = some 4 := zt_12 21 789 4 rfl rfl
theorem zy_790 : code.data.toList[790]? = some 4 := zt_12 22 790 4 rfl rfl
theorem zy_791 : code.data.toList[791]? = some 96 := zt_12 23 791 96 rfl rfl
theorem zy_792 : code.data.toList[792]? = some 46 := zt_12 24 792 46 rfl rfl
theorem zy_793 : code.data.toList[793]? = some 182 := zt_12 25 793 182 rfl rfl
theorem zy_794 : code.data.toList[794]? = some 0 := zt_12 26 794 0 rfl rfl
theorem zy_795 : code.data.toList[795]? = some 89 := zt_12 27 795 89 rfl rfl
theorem zy_796 : code.data.toList[796]? = some 87 := zt_12 28 796 87 rfl rfl
theorem zy_797 : code.data.toList[797]? = some 44 := zt_12 29 797 44 rfl rfl
theorem zy_798 : code.data.toList[798]? = some 42 := zt_12 30 798 42 rfl rfl
theorem zy_799 : code.data.toList[799]? = some 21 := zt_12 31 799 21 rfl rfl
theorem zy_800 : code.data.toList[800]? = some 4 := zt_12 32 800 4 rfl rfl
theorem zy_801 : code.data.toList[801]? = some 4 := zt_12 33 801 4 rfl rfl
theorem zy_802 : code.data.toList[802]? = some 96 := zt_12 34 802 96 rfl rfl
theorem zy_803 : code.data.toList[803]? = some 46 := zt_12 35 803 46 rfl rfl
theorem zy_804 : code.data.toList[804]? = some 182 := zt_12 36 804 182 rfl rfl
theorem zy_805 : code.data.toList[805]? = some 0 := zt_12 37 805 0 rfl rfl
theorem zy_806 : code.data.toList[806]? = some 92 := zt_12 38 806 92 rfl rfl
theorem zy_807 : code.data.toList[807]? = some 87 := zt_12 39 807 87 rfl rfl
theorem zy_811 : code.data.toList[811]? = some 43 := zt_12 43 811 43 rfl rfl
theorem zy_812 : code.data.toList[812]? = some 182 := zt_12 44 812 182 rfl rfl
theorem zy_813 : code.data.toList[813]? = some 0 := zt_12 45 813 0 rfl rfl
theorem zy_814 : code.data.toList[814]? = some 93 := zt_12 46 814 93 rfl rfl
theorem zy_815 : code.data.toList[815]? = some 87 := zt_12 47 815 87 rfl rfl
theorem zy_816 : code.data.toList[816]? = some 44 := zt_12 48 816 44 rfl rfl
theorem zy_817 : code.data.toList[817]? = some 182 := zt_12 49 817 182 rfl rfl
theorem zy_818 : code.data.toList[818]? = some 0 := zt_12 50 818 0 rfl rfl
theorem zy_819 : code.data.toList[819]? = some 96 := zt_12 51 819 96 rfl rfl
theorem zy_820 : code.data.toList[820]? = some 87 := zt_12 52 820 87 rfl rfl
theorem zy_824 : code.data.toList[824]? = some 43 := zt_12 56 824 43 rfl rfl
theorem zy_825 : code.data.toList[825]? = some 42 := zt_12 57 825 42 rfl rfl
theorem zy_826 : code.data.toList[826]? = some 21 := zt_12 58 826 21 rfl rfl
theorem zy_827 : code.data.toList[827]? = some 4 := zt_12 59 827 4 rfl rfl
theorem zy_828 : code.data.toList[828]? = some 4 := zt_12 60 828 4 rfl rfl
theorem zy_829 : code.data.toList[829]? = some 96 := zt_12 61 829 96 rfl rfl
theorem zy_830 : code.data.toList[830]? = some 46 := zt_12 62 830 46 rfl rfl
theorem zy_831 : code.data.toList[831]? = some 182 := zt_12 63 831 182 rfl rfl
theorem zy_832 : code.data.toList[832]? = some 0 := zt_13 0 832 0 rfl rfl
theorem zy_833 : code.data.toList[833]? = some 97 := zt_13 1 833 97 rfl rfl
theorem zy_834 : code.data.toList[834]? = some 87 := zt_13 2 834 87 rfl rfl
theorem zy_835 : code.data.toList[835]? = some 44 := zt_13 3 835 44 rfl rfl
theorem zy_836 : code.data.toList[836]? = some 42 := zt_13 4 836 42 rfl rfl
theorem zy_837 : code.data.toList[837]? = some 21 := zt_13 5 837 21 rfl rfl
theorem zy_838 : code.data.toList[838]? = some 4 := zt_13 6 838 4 rfl rfl
theorem zy_839 : code.data.toList[839]? = some 4 := zt_13 7 839 4 rfl rfl
theorem zy_840 : code.data.toList[840]? = some 96 := zt_13 8 840 96 rfl rfl
theorem zy_841 : code.data.toList[841]? = some 46 := zt_13 9 841 46 rfl rfl
theorem zy_842 : code.data.toList[842]? = some 182 := zt_13 10 842 182 rfl rfl
theorem zy_843 : code.data.toList[843]? = some 0 := zt_13 11 843 0 rfl rfl
theorem zy_844 : code.data.toList[844]? = some 100 := zt_13 12 844 100 rfl rfl
theorem zy_845 : code.data.toList[845]? = some 87 := zt_13 13 845 87 rfl rfl
theorem zy_849 : code.data.toList[849]? = some 43 := zt_13 17 849 43 rfl rfl
theorem zy_850 : code.data.toList[850]? = some 42 := zt_13 18 850 42 rfl rfl
theorem zy_851 : code.data.toList[851]? = some 21 := zt_13 19 851 21 rfl rfl
theorem zy_852 : code.data.toList[852]? = some 4 := zt_13 20 852 4 rfl rfl
theorem zy_853 : code.data.toList[853]? = some 4 := zt_13 21 853 4 rfl rfl
theorem zy_854 : code.data.toList[854]? = some 96 := zt_13 22 854 96 rfl rfl
theorem zy_855 : code.data.toList[855]? = some 46 := zt_13 23 855 46 rfl rfl
theorem zy_856 : code.data.toList[856]? = some 182 := zt_13 24 856 182 rfl rfl
theorem zy_857 : code.data.toList[857]? = some 0 := zt_13 25 857 0 rfl rfl
theorem zy_858 : code.data.toList[858]? = some 101 := zt_13 26 858 101 rfl rfl
theorem zy_859 : code.data.toList[859]? = some 87 := zt_13 27 859 87 rfl rfl
theorem zy_860 : code.data.toList[860]? = some 44 := zt_13 28 860 44 rfl rfl
theorem zy_861 : code.data.toList[861]? = some 42 := zt_13 29 861 42 rfl rfl
theorem zy_862 : code.data.toList[862]? = some 21 := zt_13 30 862 21 rfl rfl
theorem zy_863 : code.data.toList[863]? = some 4 := zt_13 31 863 4 rfl rfl
theorem zy_864 : code.data.toList[864]? = some 4 := zt_13 32 864 4 rfl rfl
theorem zy_865 : code.data.toList[865]? = some 96 := zt_13 33 865 96 rfl rfl
theorem zy_866 : code.data.toList[866]? = some 46 := zt_13 34 866 46 rfl rfl
theorem zy_867 : code.data.toList[867]? = some 182 := zt_13 35 867 182 rfl rfl
theorem zy_868 : code.data.toList[868]? = some 0 := zt_13 36 868 0 rfl rfl
theorem zy_869 : code.data.toList[869]? = some 104 := zt_13 37 869 104 rfl rfl
theorem zy_870 : code.data.toList[870]? = some 87 := zt_13 38 870 87 rfl rfl
theorem zy_874 : code.data.toList[874]? = some 43 := zt_13 42 874 43 rfl rfl
theorem zy_875 : code.data.toList[875]? = some 42 := zt_13 43 875 42 rfl rfl
theorem zy_876 : code.data.toList[876]? = some 21 := zt_13 44 876 21 rfl rfl
theorem zy_877 : code.data.toList[877]? = some 4 := zt_13 45 877 4 rfl rfl
theorem zy_878 : code.data.toList[878]? = some 4 := zt_13 46 878 4 rfl rfl
theorem zy_879 : code.data.toList[879]? = some 96 := zt_13 47 879 96 rfl rfl
theorem zy_880 : code.data.toList[880]? = some 46 := zt_13 48 880 46 rfl rfl
theorem zy_881 : code.data.toList[881]? = some 42 := zt_13 49 881 42 rfl rfl
theorem zy_882 : code.data.toList[882]? = some 21 := zt_13 50 882 21 rfl rfl
theorem zy_883 : code.data.toList[883]? = some 4 := zt_13 51 883 4 rfl rfl
theorem zy_884 : code.data.toList[884]? = some 5 := zt_13 52 884 5 rfl rfl
theorem zy_885 : code.data.toList[885]? = some 96 := zt_13 53 885 96 rfl rfl
theorem zy_886 : code.data.toList[886]? = some 46 := zt_13 54 886 46 rfl rfl
theorem zy_891 : code.data.toList[891]? = some 42 := zt_13 59 891 42 rfl rfl
theorem zy_892 : code.data.toList[892]? = some 21 := zt_13 60 892 21 rfl rfl
theorem zy_893 : code.data.toList[893]? = some 4 := zt_13 61 893 4 rfl rfl
theorem zy_894 : code.data.toList[894]? = some 6 := zt_13 62 894 6 rfl rfl
theorem zy_895 : code.data.toList[895]? = some 96 := zt_13 63 895 96 rfl rfl
theorem zy_896 : code.data.toList[896]? = some 46 := zt_14 0 896 46 rfl rfl
theorem zy_903 : code.data.toList[903]? = some 182 := zt_14 7 903 182 rfl rfl
theorem zy_904 : code.data.toList[904]? = some 0 := zt_14 8 904 0 rfl rfl
theorem zy_905 : code.data.toList[905]? = some 107 := zt_14 9 905 107 rfl rfl
theorem zy_906 : code.data.toList[906]? = some 87 := zt_14 10 906 87 rfl rfl
theorem zy_907 : code.data.toList[907]? = some 44 := zt_14 11 907 44 rfl rfl
theorem zy_908 : code.data.toList[908]? = some 42 := zt_14 12 908 42 rfl rfl
theorem zy_909 : code.data.toList[909]? = some 21 := zt_14 13 909 21 rfl rfl
theorem zy_910 : code.data.toList[910]? = some 4 := zt_14 14 910 4 rfl rfl
theorem zy_911 : code.data.toList[911]? = some 4 := zt_14 15 911 4 rfl rfl
theorem zy_912 : code.data.toList[912]? = some 96 := zt_14 16 912 96 rfl rfl
theorem zy_913 : code.data.toList[913]? = some 46 := zt_14 17 913 46 rfl rfl
theorem zy_914 : code.data.toList[914]? = some 42 := zt_14 18 914 42 rfl rfl
theorem zy_915 : code.data.toList[915]? = some 21 := zt_14 19 915 21 rfl rfl
theorem zy_916 : code.data.toList[916]? = some 4 := zt_14 20 916 4 rfl rfl
theorem zy_917 : code.data.toList[917]? = some 5 := zt_14 21 917 5 rfl rfl
theorem zy_918 : code.data.toList[918]? = some 96 := zt_14 22 918 96 rfl rfl
theorem zy_919 : code.data.toList[919]? = some 46 := zt_14 23 919 46 rfl rfl
theorem zy_924 : code.data.toList[924]? = some 42 := zt_14 28 924 42 rfl rfl
theorem zy_925 : code.data.toList[925]? = some 21 := zt_14 29 925 21 rfl rfl
theorem zy_926 : code.data.toList[926]? = some 4 := zt_14 30 926 4 rfl rfl
theorem zy_927 : code.data.toList[927]? = some 6 := zt_14 31 927 6 rfl rfl
theorem zy_928 : code.data.toList[928]? = some 96 := zt_14 32 928 96 rfl rfl
theorem zy_929 : code.data.toList[929]? = some 46 := zt_14 33 929 46 rfl rfl
theorem zy_936 : code.data.toList[936]? = some 182 := zt_14 40 936 182 rfl rfl
theorem zy_937 : code.data.toList[937]? = some 0 := zt_14 41 937 0 rfl rfl
theorem zy_938 : code.data.toList[938]? = some 111 := zt_14 42 938 111 rfl rfl
theorem zy_939 : code.data.toList[939]? = some 87 := zt_14 43 939 87 rfl rfl
theorem zy_943 : code.data.toList[943]? = some 43 := zt_14 47 943 43 rfl rfl
theorem zy_944 : code.data.toList[944]? = some 42 := zt_14 48 944 42 rfl rfl
theorem zy_945 : code.data.toList[945]? = some 21 := zt_14 49 945 21 rfl rfl
theorem zy_946 : code.data.toList[946]? = some 4 := zt_14 50 946 4 rfl rfl
theorem zy_947 : code.data.toList[947]? = some 4 := zt_14 51 947 4 rfl rfl
theorem zy_948 : code.data.toList[948]? = some 96 := zt_14 52 948 96 rfl rfl
theorem zy_949 : code.data.toList[949]? = some 46 := zt_14 53 949 46 rfl rfl
theorem zy_950 : code.data.toList[950]? = some 182 := zt_14 54 950 182 rfl rfl
theorem zy_951 : code.data.toList[951]? = some 0 := zt_14 55 951 0 rfl rfl
theorem zy_952 : code.data.toList[952]? = some 112 := zt_14 56 952 112 rfl rfl
theorem zy_953 : code.data.toList[953]? = some 87 := zt_14 57 953 87 rfl rfl
theorem zy_954 : code.data.toList[954]? = some 44 := zt_14 58 954 44 rfl rfl
theorem zy_955 : code.data.toList[955]? = some 42 := zt_14 59 955 42 rfl rfl
theorem zy_956 : code.data.toList[956]? = some 21 := zt_14 60 956 21 rfl rfl
theorem zy_957 : code.data.toList[957]? = some 4 := zt_14 61 957 4 rfl rfl
theorem zy_958 : code.data.toList[958]? = some 4 := zt_14 62 958 4 rfl rfl
theorem zy_959 : code.data.toList[959]? = some 96 := zt_14 63 959 96 rfl rfl
theorem zy_960 : code.data.toList[960]? = some 46 := zt_15 0 960 46 rfl rfl
theorem zy_961 : code.data.toList[961]? = some 182 := zt_15 1 961 182 rfl rfl
theorem zy_962 : code.data.toList[962]? = some 0 := zt_15 2 962 0 rfl rfl
theorem zy_963 : code.data.toList[963]? = some 115 := zt_15 3 963 115 rfl rfl
theorem zy_964 : code.data.toList[964]? = some 87 := zt_15 4 964 87 rfl rfl
theorem zy_968 : code.data.toList[968]? = some 43 := zt_15 8 968 43 rfl rfl
theorem zy_969 : code.data.toList[969]? = some 182 := zt_15 9 969 182 rfl rfl
theorem zy_970 : code.data.toList[970]? = some 0 := zt_15 10 970 0 rfl rfl
theorem zy_971 : code.data.toList[971]? = some 116 := zt_15 11 971 116 rfl rfl
theorem zy_972 : code.data.toList[972]? = some 87 := zt_15 12 972 87 rfl rfl
theorem zy_973 : code.data.toList[973]? = some 44 := zt_15 13 973 44 rfl rfl
theorem zy_974 : code.data.toList[974]? = some 182 := zt_15 14 974 182 rfl rfl
theorem zy_975 : code.data.toList[975]? = some 0 := zt_15 15 975 0 rfl rfl
theorem zy_976 : code.data.toList[976]? = some 119 := zt_15 16 976 119 rfl rfl
theorem zy_977 : code.data.toList[977]? = some 87 := zt_15 17 977 87 rfl rfl
theorem zy_981 : code.data.toList[981]? = some 43 := zt_15 21 981 43 rfl rfl
theorem zy_982 : code.data.toList[982]? = some 42 := zt_15 22 982 42 rfl rfl
theorem zy_983 : code.data.toList[983]? = some 21 := zt_15 23 983 21 rfl rfl
theorem zy_984 : code.data.toList[984]? = some 4 := zt_15 24 984 4 rfl rfl
theorem zy_985 : code.data.toList[985]? = some 4 := zt_15 25 985 4 rfl rfl
theorem zy_986 : code.data.toList[986]? = some 96 := zt_15 26 986 96 rfl rfl
theorem zy_987 : code.data.toList[987]? = some 46 := zt_15 27 987 46 rfl rfl
theorem zy_988 : code.data.toList[988]? = some 42 := zt_15 28 988 42 rfl rfl
theorem zy_989 : code.data.toList[989]? = some 21 := zt_15 29 989 21 rfl rfl
theorem zy_990 : code.data.toList[990]? = some 4 := zt_15 30 990 4 rfl rfl
theorem zy_991 : code.data.toList[991]? = some 5 := zt_15 31 991 5 rfl rfl
theorem zy_992 : code.data.toList[992]? = some 96 := zt_15 32 992 96 rfl rfl
theorem zy_993 : code.data.toList[993]? = some 46 := zt_15 33 993 46 rfl rfl
theorem zy_994 : code.data.toList[994]? = some 182 := zt_15 34 994 182 rfl rfl
theorem zy_995 : code.data.toList[995]? = some 0 := zt_15 35 995 0 rfl rfl
theorem zy_996 : code.data.toList[996]? = some 120 := zt_15 36 996 120 rfl rfl
theorem zy_997 : code.data.toList[997]? = some 87 := zt_15 37 997 87 rfl rfl
theorem zy_998 : code.data.toList[998]? = some 44 := zt_15 38 998 44 rfl rfl
theorem zy_999 : code.data.toList[999]? = some 42 := zt_15 39 999 42 rfl rfl
theorem zy_1000 : code.data.toList[1000]? = some 21 := zt_15 40 1000 21 rfl rfl
theorem zy_1001 : code.data.toList[1001]? = some 4 := zt_15 41 1001 4 rfl rfl
theorem zy_1002 : code.data.toList[1002]? = some 4 := zt_15 42 1002 4 rfl rfl
theorem zy_1003 : code.data.toList[1003]? = some 96 := zt_15 43 1003 96 rfl rfl
theorem zy_1004 : code.data.toList[1004]? = some 46 := zt_15 44 1004 46 rfl rfl
theorem zy_1005 : code.data.toList[1005]? = some 42 := zt_15 45 1005 42 rfl rfl
theorem zy_1006 : code.data.toList[1006]? = some 21 := zt_15 46 1006 21 rfl rfl
theorem zy_1007 : code.data.toList[1007]? = some 4 := zt_15 47 1007 4 rfl rfl
theorem zy_1008 : code.data.toList[1008]? = some 5 := zt_15 48 1008 5 rfl rfl
theorem zy_1009 : code.data.toList[1009]? = some 96 := zt_15 49 1009 96 rfl rfl
theorem zy_1010 : code.data.toList[1010]? = some 46 := zt_15 50 1010 46 rfl rfl
theorem zy_1011 : code.data.toList[1011]? = some 182 := zt_15 51 1011 182 rfl rfl
theorem zy_1012 : code.data.toList[1012]? = some 0 := zt_15 52 1012 0 rfl rfl
theorem zy_1013 : code.data.toList[1013]? = some 123 := zt_15 53 1013 123 rfl rfl
theorem zy_1014 : code.data.toList[1014]? = some 87 := zt_15 54 1014 87 rfl rfl
theorem zy_1018 : code.data.toList[1018]? = some 43 := zt_15 58 1018 43 rfl rfl
theorem zy_1019 : code.data.toList[1019]? = some 42 := zt_15 59 1019 42 rfl rfl
theorem zy_1020 : code.data.toList[1020]? = some 21 := zt_15 60 1020 21 rfl rfl
theorem zy_1021 : code.data.toList[1021]? = some 4 := zt_15 61 1021 4 rfl rfl
theorem zy_1022 : code.data.toList[1022]? = some 4 := zt_15 62 1022 4 rfl rfl
theorem zy_1023 : code.data.toList[1023]? = some 96 := zt_15 63 1023 96 rfl rfl
theorem zy_1024 : code.data.toList[1024]? = some 46 := zt_16 0 1024 46 rfl rfl
theorem zy_1025 : code.data.toList[1025]? = some 182 := zt_16 1 1025 182 rfl rfl
theorem zy_1026 : code.data.toList[1026]? = some 0 := zt_16 2 1026 0 rfl rfl
theorem zy_1027 : code.data.toList[1027]? = some 124 := zt_16 3 1027 124 rfl rfl
theorem zy_1028 : code.data.toList[1028]? = some 87 := zt_16 4 1028 87 rfl rfl
theorem zy_1029 : code.data.toList[1029]? = some 44 := zt_16 5 1029 44 rfl rfl
theorem zy_1030 : code.data.toList[1030]? = some 42 := zt_16 6 1030 42 rfl rfl
theorem zy_1031 : code.data.toList[1031]? = some 21 := zt_16 7 1031 21 rfl rfl
theorem zy_1032 : code.data.toList[1032]? = some 4 := zt_16 8 1032 4 rfl rfl
theorem zy_1033 : code.data.toList[1033]? = some 4 := zt_16 9 1033 4 rfl rfl
theorem zy_1034 : code.data.toList[1034]? = some 96 := zt_16 10 1034 96 rfl rfl
theorem zy_1035 : code.data.toList[1035]? = some 46 := zt_16 11 1035 46 rfl rfl
theorem zy_1036 : code.data.toList[1036]? = some 182 := zt_16 12 1036 182 rfl rfl
theorem zy_1037 : code.data.toList[1037]? = some 0 := zt_16 13 1037 0 rfl rfl
theorem zy_1038 : code.data.toList[1038]? = some 127 := zt_16 14 1038 127 rfl rfl
theorem zy_1039 : code.data.toList[1039]? = some 87 := zt_16 15 1039 87 rfl rfl
theorem zy_1043 : code.data.toList[1043]? = some 43 := zt_16 19 1043 43 rfl rfl
theorem zy_1044 : code.data.toList[1044]? = some 42 := zt_16 20 1044 42 rfl rfl
theorem zy_1045 : code.data.toList[1045]? = some 21 := zt_16 21 1045 21 rfl rfl
theorem zy_1046 : code.data.toList[1046]? = some 4 := zt_16 22 1046 4 rfl rfl
theorem zy_1047 : code.data.toList[1047]? = some 4 := zt_16 23 1047 4 rfl rfl
theorem zy_1048 : code.data.toList[1048]? = some 96 := zt_16 24 1048 96 rfl rfl
theorem zy_1049 : code.data.toList[1049]? = some 46 := zt_16 25 1049 46 rfl rfl
theorem zy_1050 : code.data.toList[1050]? = some 42 := zt_16 26 1050 42 rfl rfl
theorem zy_1051 : code.data.toList[1051]? = some 21 := zt_16 27 1051 21 rfl rfl
theorem zy_1052 : code.data.toList[1052]? = some 4 := zt_16 28 1052 4 rfl rfl
theorem zy_1053 : code.data.toList[1053]? = some 5 := zt_16 29 1053 5 rfl rfl
theorem zy_1054 : code.data.toList[1054]? = some 96 := zt_16 30 1054 96 rfl rfl
theorem zy_1055 : code.data.toList[1055]? = some 46 := zt_16 31 1055 46 rfl rfl
theorem zy_1056 : code.data.toList[1056]? = some 182 := zt_16 32 1056 182 rfl rfl
theorem zy_1057 : code.data.toList[1057]? = some 0 := zt_16 33 1057 0 rfl rfl
theorem zy_1058 : code.data.toList[1058]? = some 128 := zt_16 34 1058 128 rfl rfl
theorem zy_1059 : code.data.toList[1059]? = some 87 := zt_16 35 1059 87 rfl rfl
theorem zy_1060 : code.data.toList[1060]? = some 44 := zt_16 36 1060 44 rfl rfl
theorem zy_1061 : code.data.toList[1061]? = some 42 := zt_16 37 1061 42 rfl rfl
theorem zy_1062 : code.data.toList[1062]? = some 21 := zt_16 38 1062 21 rfl rfl
theorem zy_1063 : code.data.toList[1063]? = some 4 := zt_16 39 1063 4 rfl rfl
theorem zy_1064 : code.data.toList[1064]? = some 4 := zt_16 40 1064 4 rfl rfl
theorem zy_1065 : code.data.toList[1065]? = some 96 := zt_16 41 1065 96 rfl rfl
theorem zy_1066 : code.data.toList[1066]? = some 46 := zt_16 42 1066 46 rfl rfl
theorem zy_1067 : code.data.toList[1067]? = some 42 := zt_16 43 1067 42 rfl rfl
theorem zy_1068 : code.data.toList[1068]? = some 21 := zt_16 44 1068 21 rfl rfl
theorem zy_1069 : code.data.toList[1069]? = some 4 := zt_16 45 1069 4 rfl rfl
theorem zy_1070 : code.data.toList[1070]? = some 5 := zt_16 46 1070 5 rfl rfl
theorem zy_1071 : code.data.toList[1071]? = some 96 := zt_16 47 1071 96 rfl rfl
theorem zy_1072 : code.data.toList[1072]? = some 46 := zt_16 48 1072 46 rfl rfl
theorem zy_1073 : code.data.toList[1073]? = some 182 := zt_16 49 1073 182 rfl rfl
theorem zy_1074 : code.data.toList[1074]? = some 0 := zt_16 50 1074 0 rfl rfl
theorem zy_1075 : code.data.toList[1075]? = some 131 := zt_16 51 1075 131 rfl rfl
theorem zy_1076 : code.data.toList[1076]? = some 87 := zt_16 52 1076 87 rfl rfl
theorem zy_1080 : code.data.toList[1080]? = some 43 := zt_16 56 1080 43 rfl rfl
theorem zy_1081 : code.data.toList[1081]? = some 42 := zt_16 57 1081 42 rfl rfl
theorem zy_1082 : code.data.toList[1082]? = some 21 := zt_16 58 1082 21 rfl rfl
theorem zy_1083 : code.data.toList[1083]? = some 4 := zt_16 59 1083 4 rfl rfl
theorem zy_1084 : code.data.toList[1084]? = some 4 := zt_16 60 1084 4 rfl rfl
theorem zy_1085 : code.data.toList[1085]? = some 96 := zt_16 61 1085 96 rfl rfl
theorem zy_1086 : code.data.toList[1086]? = some 46 := zt_16 62 1086 46 rfl rfl
theorem zy_1087 : code.data.toList[1087]? = some 42 := zt_16 63 1087 42 rfl rfl
theorem zy_1088 : code.data.toList[1088]? = some 21 := zt_17 0 1088 21 rfl rfl
theorem zy_1089 : code.data.toList[1089]? = some 4 := zt_17 1 1089 4 rfl rfl
theorem zy_1090 : code.data.toList[1090]? = some 5 := zt_17 2 1090 5 rfl rfl
theorem zy_1091 : code.data.toList[1091]? = some 96 := zt_17 3 1091 96 rfl rfl
theorem zy_1092 : code.data.toList[1092]? = some 46 := zt_17 4 1092 46 rfl rfl
theorem zy_1093 : code.data.toList[1093]? = some 182 := zt_17 5 1093 182 rfl rfl
theorem zy_1094 : code.data.toList[1094]? = some 0 := zt_17 6 1094 0 rfl rfl
theorem zy_1095 : code.data.toList[1095]? = some 132 := zt_17 7 1095 132 rfl rfl
theorem zy_1096 : code.data.toList[1096]? = some 87 := zt_17 8 1096 87 rfl rfl
theorem zy_1097 : code.data.toList[1097]? = some 44 := zt_17 9 1097 44 rfl rfl
theorem zy_1098 : code.data.toList[1098]? = some 42 := zt_17 10 1098 42 rfl rfl
theorem zy_1099 : code.data.toList[1099]? = some 21 := zt_17 11 1099 21 rfl rfl
theorem zy_1100 : code.data.toList[1100]? = some 4 := zt_17 12 1100 4 rfl rfl
theorem zy_1101 : code.data.toList[1101]? = some 4 := zt_17 13 1101 4 rfl rfl
theorem zy_1102 : code.data.toList[1102]? = some 96 := zt_17 14 1102 96 rfl rfl
theorem zy_1103 : code.data.toList[1103]? = some 46 := zt_17 15 1103 46 rfl rfl
theorem zy_1104 : code.data.toList[1104]? = some 42 := zt_17 16 1104 42 rfl rfl
theorem zy_1105 : code.data.toList[1105]? = some 21 := zt_17 17 1105 21 rfl rfl
theorem zy_1106 : code.data.toList[1106]? = some 4 := zt_17 18 1106 4 rfl rfl
theorem zy_1107 : code.data.toList[1107]? = some 5 := zt_17 19 1107 5 rfl rfl
theorem zy_1108 : code.data.toList[1108]? = some 96 := zt_17 20 1108 96 rfl rfl
theorem zy_1109 : code.data.toList[1109]? = some 46 := zt_17 21 1109 46 rfl rfl
theorem zy_1110 : code.data.toList[1110]? = some 182 := zt_17 22 1110 182 rfl rfl
theorem zy_1111 : code.data.toList[1111]? = some 0 := zt_17 23 1111 0 rfl rfl
theorem zy_1112 : code.data.toList[1112]? = some 135 := zt_17 24 1112 135 rfl rfl
theorem zy_1113 : code.data.toList[1113]? = some 87 := zt_17 25 1113 87 rfl rfl
theorem zy_1117 : code.data.toList[1117]? = some 43 := zt_17 29 1117 43 rfl rfl
theorem zy_1118 : code.data.toList[1118]? = some 42 := zt_17 30 1118 42 rfl rfl
theorem zy_1119 : code.data.toList[1119]? = some 21 := zt_17 31 1119 21 rfl rfl
theorem zy_1120 : code.data.toList[1120]? = some 4 := zt_17 32 1120 4 rfl rfl
theorem zy_1121 : code.data.toList[1121]? = some 4 := zt_17 33 1121 4 rfl rfl
theorem zy_1122 : code.data.toList[1122]? = some 96 := zt_17 34 1122 96 rfl rfl
theorem zy_1123 : code.data.toList[1123]? = some 46 := zt_17 35 1123 46 rfl rfl
theorem zy_1124 : code.data.toList[1124]? = some 42 := zt_17 36 1124 42 rfl rfl
theorem zy_1125 : code.data.toList[1125]? = some 21 := zt_17 37 1125 21 rfl rfl
theorem zy_1126 : code.data.toList[1126]? = some 4 := zt_17 38 1126 4 rfl rfl
theorem zy_1127 : code.data.toList[1127]? = some 5 := zt_17 39 1127 5 rfl rfl
theorem zy_1128 : code.data.toList[1128]? = some 96 := zt_17 40 1128 96 rfl rfl
theorem zy_1129 : code.data.toList[1129]? = some 46 := zt_17 41 1129 46 rfl rfl
theorem zy_1130 : code.data.toList[1130]? = some 182 := zt_17 42 1130 182 rfl rfl
theorem zy_1131 : code.data.toList[1131]? = some 0 := zt_17 43 1131 0 rfl rfl
theorem zy_1132 : code.data.toList[1132]? = some 136 := zt_17 44 1132 136 rfl rfl
theorem zy_1133 : code.data.toList[1133]? = some 87 := zt_17 45 1133 87 rfl rfl
theorem zy_1134 : code.data.toList[1134]? = some 44 := zt_17 46 1134 44 rfl rfl
theorem zy_1135 : code.data.toList[1135]? = some 42 := zt_17 47 1135 42 rfl rfl
theorem zy_1136 : code.data.toList[1136]? = some 21 := zt_17 48 1136 21 rfl rfl
theorem zy_1137 : code.data.toList[1137]? = some 4 := zt_17 49 1137 4 rfl rfl
theorem zy_1138 : code.data.toList[1138]? = some 4 := zt_17 50 1138 4 rfl rfl
theorem zy_1139 : code.data.toList[1139]? = some 96 := zt_17 51 1139 96 rfl rfl
theorem zy_1140 : code.data.toList[1140]? = some 46 := zt_17 52 1140 46 rfl rfl
theorem zy_1141 : code.data.toList[1141]? = some 42 := zt_17 53 1141 42 rfl rfl
theorem zy_1142 : code.data.toList[1142]? = some 21 := zt_17 54 1142 21 rfl rfl
theorem zy_1143 : code.data.toList[1143]? = some 4 := zt_17 55 1143 4 rfl rfl
theorem zy_1144 : code.data.toList[1144]? = some 5 := zt_17 56 1144 5 rfl rfl
theorem zy_1145 : code.data.toList[1145]? = some 96 := zt_17 57 1145 96 rfl rfl
theorem zy_1146 : code.data.toList[1146]? = some 46 := zt_17 58 1146 46 rfl rfl
theorem zy_1147 : code.data.toList[1147]? = some 182 := zt_17 59 1147 182 rfl rfl
theorem zy_1148 : code.data.toList[1148]? = some 0 := zt_17 60 1148 0 rfl rfl
theorem zy_1149 : code.data.toList[1149]? = some 139 := zt_17 61 1149 139 rfl rfl
theorem zy_1150 : code.data.toList[1150]? = some 87 := zt_17 62 1150 87 rfl rfl
theorem zy_1154 : code.data.toList[1154]? = some 43 := zt_18 2 1154 43 rfl rfl
theorem zy_1155 : code.data.toList[1155]? = some 42 := zt_18 3 1155 42 rfl rfl
theorem zy_1156 : code.data.toList[1156]? = some 21 := zt_18 4 1156 21 rfl rfl
theorem zy_1157 : code.data.toList[1157]? = some 4 := zt_18 5 1157 4 rfl rfl
theorem zy_1158 : code.data.toList[1158]? = some 4 := zt_18 6 1158 4 rfl rfl
theorem zy_1159 : code.data.toList[1159]? = some 96 := zt_18 7 1159 96 rfl rfl
theorem zy_1160 : code.data.toList[1160]? = some 46 := zt_18 8 1160 46 rfl rfl
theorem zy_1161 : code.data.toList[1161]? = some 182 := zt_18 9 1161 182 rfl rfl
theorem zy_1162 : code.data.toList[1162]? = some 0 := zt_18 10 1162 0 rfl rfl
theorem zy_1163 : code.data.toList[1163]? = some 140 := zt_18 11 1163 140 rfl rfl
theorem zy_1164 : code.data.toList[1164]? = some 87 := zt_18 12 1164 87 rfl rfl
theorem zy_1165 : code.data.toList[1165]? = some 44 := zt_18 13 1165 44 rfl rfl
theorem zy_1166 : code.data.toList[1166]? = some 42 := zt_18 14 1166 42 rfl rfl
theorem zy_1167 : code.data.toList[1167]? = some 21 := zt_18 15 1167 21 rfl rfl
theorem zy_1168 : code.data.toList[1168]? = some 4 := zt_18 16 1168 4 rfl rfl
theorem zy_1169 : code.data.toList[1169]? = some 4 := zt_18 17 1169 4 rfl rfl
theorem zy_1170 : code.data.toList[1170]? = some 96 := zt_18 18 1170 96 rfl rfl
theorem zy_1171 : code.data.toList[1171]? = some 46 := zt_18 19 1171 46 rfl rfl
theorem zy_1172 : code.data.toList[1172]? = some 182 := zt_18 20 1172 182 rfl rfl
theorem zy_1173 : code.data.toList[1173]? = some 0 := zt_18 21 1173 0 rfl rfl
theorem zy_1174 : code.data.toList[1174]? = some 143 := zt_18 22 1174 143 rfl rfl
theorem zy_1175 : code.data.toList[1175]? = some 87 := zt_18 23 1175 87 rfl rfl
theorem zy_1179 : code.data.toList[1179]? = some 43 := zt_18 27 1179 43 rfl rfl
theorem zy_1180 : code.data.toList[1180]? = some 42 := zt_18 28 1180 42 rfl rfl
theorem zy_1181 : code.data.toList[1181]? = some 21 := zt_18 29 1181 21 rfl rfl
theorem zy_1182 : code.data.toList[1182]? = some 4 := zt_18 30 1182 4 rfl rfl
theorem zy_1183 : code.data.toList[1183]? = some 4 := zt_18 31 1183 4 rfl rfl
theorem zy_1184 : code.data.toList[1184]? = some 96 := zt_18 32 1184 96 rfl rfl
theorem zy_1185 : code.data.toList[1185]? = some 46 := zt_18 33 1185 46 rfl rfl
theorem zy_1186 : code.data.toList[1186]? = some 182 := zt_18 34 1186 182 rfl rfl
theorem zy_1187 : code.data.toList[1187]? = some 0 := zt_18 35 1187 0 rfl rfl
theorem zy_1188 : code.data.toList[1188]? = some 144 := zt_18 36 1188 144 rfl rfl
theorem zy_1189 : code.data.toList[1189]? = some 87 := zt_18 37 1189 87 rfl rfl
theorem zy_1190 : code.data.toList[1190]? = some 44 := zt_18 38 1190 44 rfl rfl
theorem zy_1191 : code.data.toList[1191]? = some 42 := zt_18 39 1191 42 rfl rfl
theorem zy_1192 : code.data.toList[1192]? = some 21 := zt_18 40 1192 21 rfl rfl
theorem zy_1193 : code.data.toList[1193]? = some 4 := zt_18 41 1193 4 rfl rfl
theorem zy_1194 : code.data.toList[1194]? = some 4 := zt_18 42 1194 4 rfl rfl
theorem zy_1195 : code.data.toList[1195]? = some 96 := zt_18 43 1195 96 rfl rfl
theorem zy_1196 : code.data.toList[1196]? = some 46 := zt_18 44 1196 46 rfl rfl
theorem zy_1197 : code.data.toList[1197]? = some 182 := zt_18 45 1197 182 rfl rfl
theorem zy_1198 : code.data.toList[1198]? = some 0 := zt_18 46 1198 0 rfl rfl
theorem zy_1199 : code.data.toList[1199]? = some 147 := zt_18 47 1199 147 rfl rfl
theorem zy_1200 : code.data.toList[1200]? = some 87 := zt_18 48 1200 87 rfl rfl
theorem zy_1204 : code.data.toList[1204]? = some 43 := zt_18 52 1204 43 rfl rfl
theorem zy_1205 : code.data.toList[1205]? = some 42 := zt_18 53 1205 42 rfl rfl
theorem zy_1206 : code.data.toList[1206]? = some 21 := zt_18 54 1206 21 rfl rfl
theorem zy_1207 : code.data.toList[1207]? = some 4 := zt_18 55 1207 4 rfl rfl
theorem zy_1208 : code.data.toList[1208]? = some 4 := zt_18 56 1208 4 rfl rfl
theorem zy_1209 : code.data.toList[1209]? = some 96 := zt_18 57 1209 96 rfl rfl
theorem zy_1210 : code.data.toList[1210]? = some 46 := zt_18 58 1210 46 rfl rfl
theorem zy_1211 : code.data.toList[1211]? = some 42 := zt_18 59 1211 42 rfl rfl
theorem zy_1212 : code.data.toList[1212]? = some 21 := zt_18 60 1212 21 rfl rfl
theorem zy_1213 : code.data.toList[1213]? = some 4 := zt_18 61 1213 4 rfl rfl
theorem zy_1214 : code.data.toList[1214]? = some 5 := zt_18 62 1214 5 rfl rfl
theorem zy_1215 : code.data.toList[1215]? = some 96 := zt_18 63 1215 96 rfl rfl
theorem zy_1216 : code.data.toList[1216]? = some 46 := zt_19 0 1216 46 rfl rfl
theorem zy_1217 : code.data.toList[1217]? = some 182 := zt_19 1 1217 182 rfl rfl
theorem zy_1218 : code.data.toList[1218]? = some 0 := zt_19 2 1218 0 rfl rfl
theorem zy_1219 : code.data.toList[1219]? = some 148 := zt_19 3 1219 148 rfl rfl
theorem zy_1220 : code.data.toList[1220]? = some 87 := zt_19 4 1220 87 rfl rfl
theorem zy_1221 : code.data.toList[1221]? = some 44 := zt_19 5 1221 44 rfl rfl
theorem zy_1222 : code.data.toList[1222]? = some 42 := zt_19 6 1222 42 rfl rfl
theorem zy_1223 : code.data.toList[1223]? = some 21 := zt_19 7 1223 21 rfl rfl
theorem zy_1224 : code.data.toList[1224]? = some 4 := zt_19 8 1224 4 rfl rfl
theorem zy_1225 : code.data.toList[1225]? = some 4 := zt_19 9 1225 4 rfl rfl
theorem zy_1226 : code.data.toList[1226]? = some 96 := zt_19 10 1226 96 rfl rfl
theorem zy_1227 : code.data.toList[1227]? = some 46 := zt_19 11 1227 46 rfl rfl
theorem zy_1228 : code.data.toList[1228]? = some 42 := zt_19 12 1228 42 rfl rfl
theorem zy_1229 : code.data.toList[1229]? = some 21 := zt_19 13 1229 21 rfl rfl
theorem zy_1230 : code.data.toList[1230]? = some 4 := zt_19 14 1230 4 rfl rfl
theorem zy_1231 : code.data.toList[1231]? = some 5 := zt_19 15 1231 5 rfl rfl
theorem zy_1232 : code.data.toList[1232]? = some 96 := zt_19 16 1232 96 rfl rfl
theorem zy_1233 : code.data.toList[1233]? = some 46 := zt_19 17 1233 46 rfl rfl
theorem zy_1234 : code.data.toList[1234]? = some 182 := zt_19 18 1234 182 rfl rfl
theorem zy_1235 : code.data.toList[1235]? = some 0 := zt_19 19 1235 0 rfl rfl
theorem zy_1236 : code.data.toList[1236]? = some 151 := zt_19 20 1236 151 rfl rfl
theorem zy_1237 : code.data.toList[1237]? = some 87 := zt_19 21 1237 87 rfl rfl
theorem zy_1241 : code.data.toList[1241]? = some 43 := zt_19 25 1241 43 rfl rfl
theorem zy_1242 : code.data.toList[1242]? = some 42 := zt_19 26 1242 42 rfl rfl
theorem zy_1243 : code.data.toList[1243]? = some 21 := zt_19 27 1243 21 rfl rfl
theorem zy_1244 : code.data.toList[1244]? = some 4 := zt_19 28 1244 4 rfl rfl
theorem zy_1245 : code.data.toList[1245]? = some 4 := zt_19 29 1245 4 rfl rfl
theorem zy_1246 : code.data.toList[1246]? = some 96 := zt_19 30 1246 96 rfl rfl
theorem zy_1247 : code.data.toList[1247]? = some 46 := zt_19 31 1247 46 rfl rfl
theorem zy_1248 : code.data.toList[1248]? = some 182 := zt_19 32 1248 182 rfl rfl
theorem zy_1249 : code.data.toList[1249]? = some 0 := zt_19 33 1249 0 rfl rfl
theorem zy_1250 : code.data.toList[1250]? = some 152 := zt_19 34 1250 152 rfl rfl
theorem zy_1251 : code.data.toList[1251]? = some 87 := zt_19 35 1251 87 rfl rfl
theorem zy_1252 : code.data.toList[1252]? = some 44 := zt_19 36 1252 44 rfl rfl
theorem zy_1253 : code.data.toList[1253]? = some 42 := zt_19 37 1253 42 rfl rfl
theorem zy_1254 : code.data.toList[1254]? = some 21 := zt_19 38 1254 21 rfl rfl
theorem zy_1255 : code.data.toList[1255]? = some 4 := zt_19 39 1255 4 rfl rfl
theorem zy_1256 : code.data.toList[1256]? = some 4 := zt_19 40 1256 4 rfl rfl
theorem zy_1257 : code.data.toList[1257]? = some 96 := zt_19 41 1257 96 rfl rfl
theorem zy_1258 : code.data.toList[1258]? = some 46 := zt_19 42 1258 46 rfl rfl
theorem zy_1259 : code.data.toList[1259]? = some 182 := zt_19 43 1259 182 rfl rfl
theorem zy_1260 : code.data.toList[1260]? = some 0 := zt_19 44 1260 0 rfl rfl
theorem zy_1261 : code.data.toList[1261]? = some 155 := zt_19 45 1261 155 rfl rfl
theorem zy_1262 : code.data.toList[1262]? = some 87 := zt_19 46 1262 87 rfl rfl
theorem zy_1266 : code.data.toList[1266]? = some 43 := zt_19 50 1266 43 rfl rfl
theorem zy_1267 : code.data.toList[1267]? = some 42 := zt_19 51 1267 42 rfl rfl
theorem zy_1268 : code.data.toList[1268]? = some 21 := zt_19 52 1268 21 rfl rfl
theorem zy_1269 : code.data.toList[1269]? = some 4 := zt_19 53 1269 4 rfl rfl
theorem zy_1270 : code.data.toList[1270]? = some 4 := zt_19 54 1270 4 rfl rfl
theorem zy_1271 : code.data.toList[1271]? = some 96 := zt_19 55 1271 96 rfl rfl
theorem zy_1272 : code.data.toList[1272]? = some 46 := zt_19 56 1272 46 rfl rfl
theorem zy_1273 : code.data.toList[1273]? = some 42 := zt_19 57 1273 42 rfl rfl
theorem zy_1274 : code.data.toList[1274]? = some 21 := zt_19 58 1274 21 rfl rfl
theorem zy_1275 : code.data.toList[1275]? = some 4 := zt_19 59 1275 4 rfl rfl
theorem zy_1276 : code.data.toList[1276]? = some 5 := zt_19 60 1276 5 rfl rfl
theorem zy_1277 : code.data.toList[1277]? = some 96 := zt_19 61 1277 96 rfl rfl
theorem zy_1278 : code.data.toList[1278]? = some 46 := zt_19 62 1278 46 rfl rfl
theorem zy_1279 : code.data.toList[1279]? = some 42 := zt_19 63 1279 42 rfl rfl
theorem zy_1280 : code.data.toList[1280]? = some 21 := zt_20 0 1280 21 rfl rfl
theorem zy_1281 : code.data.toList[1281]? = some 4 := zt_20 1 1281 4 rfl rfl
theorem zy_1282 : code.data.toList[1282]? = some 6 := zt_20 2 1282 6 rfl rfl
theorem zy_1283 : code.data.toList[1283]? = some 96 := zt_20 3 1283 96 rfl rfl
theorem zy_1284 : code.data.toList[1284]? = some 46 := zt_20 4 1284 46 rfl rfl
theorem zy_1285 : code.data.toList[1285]? = some 42 := zt_20 5 1285 42 rfl rfl
theorem zy_1286 : code.data.toList[1286]? = some 21 := zt_20 6 1286 21 rfl rfl
theorem zy_1287 : code.data.toList[1287]? = some 4 := zt_20 7 1287 4 rfl rfl
theorem zy_1288 : code.data.toList[1288]? = some 7 := zt_20 8 1288 7 rfl rfl
theorem zy_1289 : code.data.toList[1289]? = some 96 := zt_20 9 1289 96 rfl rfl
theorem zy_1290 : code.data.toList[1290]? = some 46 := zt_20 10 1290 46 rfl rfl
theorem zy_1291 : code.data.toList[1291]? = some 42 := zt_20 11 1291 42 rfl rfl
theorem zy_1292 : code.data.toList[1292]? = some 21 := zt_20 12 1292 21 rfl rfl
theorem zy_1293 : code.data.toList[1293]? = some 4 := zt_20 13 1293 4 rfl rfl
theorem zy_1294 : code.data.toList[1294]? = some 8 := zt_20 14 1294 8 rfl rfl
theorem zy_1295 : code.data.toList[1295]? = some 96 := zt_20 15 1295 96 rfl rfl
theorem zy_1296 : code.data.toList[1296]? = some 46 := zt_20 16 1296 46 rfl rfl
theorem zy_1297 : code.data.toList[1297]? = some 42 := zt_20 17 1297 42 rfl rfl
theorem zy_1298 : code.data.toList[1298]? = some 21 := zt_20 18 1298 21 rfl rfl
theorem zy_1299 : code.data.toList[1299]? = some 4 := zt_20 19 1299 4 rfl rfl
theorem zy_1302 : code.data.toList[1302]? = some 96 := zt_20 22 1302 96 rfl rfl
theorem zy_1303 : code.data.toList[1303]? = some 46 := zt_20 23 1303 46 rfl rfl
theorem zy_1304 : code.data.toList[1304]? = some 182 := zt_20 24 1304 182 rfl rfl
theorem zy_1305 : code.data.toList[1305]? = some 0 := zt_20 25 1305 0 rfl rfl
theorem zy_1306 : code.data.toList[1306]? = some 156 := zt_20 26 1306 156 rfl rfl
theorem zy_1307 : code.data.toList[1307]? = some 87 := zt_20 27 1307 87 rfl rfl
theorem zy_1308 : code.data.toList[1308]? = some 44 := zt_20 28 1308 44 rfl rfl
theorem zy_1309 : code.data.toList[1309]? = some 42 := zt_20 29 1309 42 rfl rfl
theorem zy_1310 : code.data.toList[1310]? = some 21 := zt_20 30 1310 21 rfl rfl
theorem zy_1311 : code.data.toList[1311]? = some 4 := zt_20 31 1311 4 rfl rfl
theorem zy_1312 : code.data.toList[1312]? = some 4 := zt_20 32 1312 4 rfl rfl
theorem zy_1313 : code.data.toList[1313]? = some 96 := zt_20 33 1313 96 rfl rfl
theorem zy_1314 : code.data.toList[1314]? = some 46 := zt_20 34 1314 46 rfl rfl
theorem zy_1315 : code.data.toList[1315]? = some 42 := zt_20 35 1315 42 rfl rfl
theorem zy_1316 : code.data.toList[1316]? = some 21 := zt_20 36 1316 21 rfl rfl
theorem zy_1317 : code.data.toList[1317]? = some 4 := zt_20 37 1317 4 rfl rfl
theorem zy_1318 : code.data.toList[1318]? = some 5 := zt_20 38 1318 5 rfl rfl
theorem zy_1319 : code.data.toList[1319]? = some 96 := zt_20 39 1319 96 rfl rfl
theorem zy_1320 : code.data.toList[1320]? = some 46 := zt_20 40 1320 46 rfl rfl
theorem zy_1321 : code.data.toList[1321]? = some 42 := zt_20 41 1321 42 rfl rfl
theorem zy_1322 : code.data.toList[1322]? = some 21 := zt_20 42 1322 21 rfl rfl
theorem zy_1323 : code.data.toList[1323]? = some 4 := zt_20 43 1323 4 rfl rfl
theorem zy_1324 : code.data.toList[1324]? = some 6 := zt_20 44 1324 6 rfl rfl
theorem zy_1325 : code.data.toList[1325]? = some 96 := zt_20 45 1325 96 rfl rfl
theorem zy_1326 : code.data.toList[1326]? = some 46 := zt_20 46 1326 46 rfl rfl
theorem zy_1327 : code.data.toList[1327]? = some 42 := zt_20 47 1327 42 rfl rfl
theorem zy_1328 : code.data.toList[1328]? = some 21 := zt_20 48 1328 21 rfl rfl
theorem zy_1329 : code.data.toList[1329]? = some 4 := zt_20 49 1329 4 rfl rfl
theorem zy_1330 : code.data.toList[1330]? = some 7 := zt_20 50 1330 7 rfl rfl
theorem zy_1331 : code.data.toList[1331]? = some 96 := zt_20 51 1331 96 rfl rfl
theorem zy_1332 : code.data.toList[1332]? = some 46 := zt_20 52 1332 46 rfl rfl
theorem zy_1333 : code.data.toList[1333]? = some 42 := zt_20 53 1333 42 rfl rfl
theorem zy_1334 : code.data.toList[1334]? = some 21 := zt_20 54 1334 21 rfl rfl
theorem zy_1335 : code.data.toList[1335]? = some 4 := zt_20 55 1335 4 rfl rfl
theorem zy_1336 : code.data.toList[1336]? = some 8 := zt_20 56 1336 8 rfl rfl
theorem zy_1337 : code.data.toList[1337]? = some 96 := zt_20 57 1337 96 rfl rfl
theorem zy_1338 : code.data.toList[1338]? = some 46 := zt_20 58 1338 46 rfl rfl
theorem zy_1339 : code.data.toList[1339]? = some 42 := zt_20 59 1339 42 rfl rfl
theorem zy_1340 : code.data.toList[1340]? = some 21 := zt_20 60 1340 21 rfl rfl
theorem zy_1341 : code.data.toList[1341]? = some 4 := zt_20 61 1341 4 rfl rfl
theorem zy_1344 : code.data.toList[1344]? = some 96 := zt_21 0 1344 96 rfl rfl
theorem zy_1345 : code.data.toList[1345]? = some 46 := zt_21 1 1345 46 rfl rfl
theorem zy_1346 : code.data.toList[1346]? = some 182 := zt_21 2 1346 182 rfl rfl
theorem zy_1347 : code.data.toList[1347]? = some 0 := zt_21 3 1347 0 rfl rfl
theorem zy_1348 : code.data.toList[1348]? = some 160 := zt_21 4 1348 160 rfl rfl
theorem zy_1349 : code.data.toList[1349]? = some 87 := zt_21 5 1349 87 rfl rfl
theorem zy_1353 : code.data.toList[1353]? = some 43 := zt_21 9 1353 43 rfl rfl
theorem zy_1354 : code.data.toList[1354]? = some 42 := zt_21 10 1354 42 rfl rfl
theorem zy_1355 : code.data.toList[1355]? = some 21 := zt_21 11 1355 21 rfl rfl
theorem zy_1356 : code.data.toList[1356]? = some 4 := zt_21 12 1356 4 rfl rfl
theorem zy_1357 : code.data.toList[1357]? = some 4 := zt_21 13 1357 4 rfl rfl
theorem zy_1358 : code.data.toList[1358]? = some 96 := zt_21 14 1358 96 rfl rfl
theorem zy_1359 : code.data.toList[1359]? = some 46 := zt_21 15 1359 46 rfl rfl
theorem zy_1360 : code.data.toList[1360]? = some 42 := zt_21 16 1360 42 rfl rfl
theorem zy_1361 : code.data.toList[1361]? = some 21 := zt_21 17 1361 21 rfl rfl
theorem zy_1362 : code.data.toList[1362]? = some 4 := zt_21 18 1362 4 rfl rfl
theorem zy_1363 : code.data.toList[1363]? = some 5 := zt_21 19 1363 5 rfl rfl
theorem zy_1364 : code.data.toList[1364]? = some 96 := zt_21 20 1364 96 rfl rfl
theorem zy_1365 : code.data.toList[1365]? = some 46 := zt_21 21 1365 46 rfl rfl
theorem zy_1366 : code.data.toList[1366]? = some 42 := zt_21 22 1366 42 rfl rfl
theorem zy_1367 : code.data.toList[1367]? = some 21 := zt_21 23 1367 21 rfl rfl
theorem zy_1368 : code.data.toList[1368]? = some 4 := zt_21 24 1368 4 rfl rfl
theorem zy_1369 : code.data.toList[1369]? = some 6 := zt_21 25 1369 6 rfl rfl
theorem zy_1370 : code.data.toList[1370]? = some 96 := zt_21 26 1370 96 rfl rfl
theorem zy_1371 : code.data.toList[1371]? = some 46 := zt_21 27 1371 46 rfl rfl
theorem zy_1372 : code.data.toList[1372]? = some 42 := zt_21 28 1372 42 rfl rfl
theorem zy_1373 : code.data.toList[1373]? = some 21 := zt_21 29 1373 21 rfl rfl
theorem zy_1374 : code.data.toList[1374]? = some 4 := zt_21 30 1374 4 rfl rfl
theorem zy_1375 : code.data.toList[1375]? = some 7 := zt_21 31 1375 7 rfl rfl
theorem zy_1376 : code.data.toList[1376]? = some 96 := zt_21 32 1376 96 rfl rfl
theorem zy_1377 : code.data.toList[1377]? = some 46 := zt_21 33 1377 46 rfl rfl
theorem zy_1378 : code.data.toList[1378]? = some 182 := zt_21 34 1378 182 rfl rfl
theorem zy_1379 : code.data.toList[1379]? = some 0 := zt_21 35 1379 0 rfl rfl
theorem zy_1380 : code.data.toList[1380]? = some 161 := zt_21 36 1380 161 rfl rfl
theorem zy_1381 : code.data.toList[1381]? = some 87 := zt_21 37 1381 87 rfl rfl
theorem zy_1382 : code.data.toList[1382]? = some 44 := zt_21 38 1382 44 rfl rfl
theorem zy_1383 : code.data.toList[1383]? = some 42 := zt_21 39 1383 42 rfl rfl
theorem zy_1384 : code.data.toList[1384]? = some 21 := zt_21 40 1384 21 rfl rfl
theorem zy_1385 : code.data.toList[1385]? = some 4 := zt_21 41 1385 4 rfl rfl
theorem zy_1386 : code.data.toList[1386]? = some 4 := zt_21 42 1386 4 rfl rfl
theorem zy_1387 : code.data.toList[1387]? = some 96 := zt_21 43 1387 96 rfl rfl
theorem zy_1388 : code.data.toList[1388]? = some 46 := zt_21 44 1388 46 rfl rfl
theorem zy_1389 : code.data.toList[1389]? = some 42 := zt_21 45 1389 42 rfl rfl
theorem zy_1390 : code.data.toList[1390]? = some 21 := zt_21 46 1390 21 rfl rfl
theorem zy_1391 : code.data.toList[1391]? = some 4 := zt_21 47 1391 4 rfl rfl
theorem zy_1392 : code.data.toList[1392]? = some 5 := zt_21 48 1392 5 rfl rfl
theorem zy_1393 : code.data.toList[1393]? = some 96 := zt_21 49 1393 96 rfl rfl
theorem zy_1394 : code.data.toList[1394]? = some 46 := zt_21 50 1394 46 rfl rfl
theorem zy_1395 : code.data.toList[1395]? = some 42 := zt_21 51 1395 42 rfl rfl
theorem zy_1396 : code.data.toList[1396]? = some 21 := zt_21 52 1396 21 rfl rfl
theorem zy_1397 : code.data.toList[1397]? = some 4 := zt_21 53 1397 4 rfl rfl
theorem zy_1398 : code.data.toList[1398]? = some 6 := zt_21 54 1398 6 rfl rfl
theorem zy_1399 : code.data.toList[1399]? = some 96 := zt_21 55 1399 96 rfl rfl
theorem zy_1400 : code.data.toList[1400]? = some 46 := zt_21 56 1400 46 rfl rfl
theorem zy_1401 : code.data.toList[1401]? = some 42 := zt_21 57 1401 42 rfl rfl
theorem zy_1402 : code.data.toList[1402]? = some 21 := zt_21 58 1402 21 rfl rfl
theorem zy_1403 : code.data.toList[1403]? = some 4 := zt_21 59 1403 4 rfl rfl
theorem zy_1404 : code.data.toList[1404]? = some 7 := zt_21 60 1404 7 rfl rfl
theorem zy_1405 : code.data.toList[1405]? = some 96 := zt_21 61 1405 96 rfl rfl
theorem zy_1406 : code.data.toList[1406]? = some 46 := zt_21 62 1406 46 rfl rfl
theorem zy_1407 : code.data.toList[1407]? = some 182 := zt_21 63 1407 182 rfl rfl
theorem zy_1408 : code.data.toList[1408]? = some 0 := zt_22 0 1408 0 rfl rfl
theorem zy_1409 : code.data.toList[1409]? = some 165 := zt_22 1 1409 165 rfl rfl
theorem zy_1410 : code.data.toList[1410]? = some 87 := zt_22 2 1410 87 rfl rfl
theorem zy_1414 : code.data.toList[1414]? = some 43 := zt_22 6 1414 43 rfl rfl
theorem zy_1415 : code.data.toList[1415]? = some 42 := zt_22 7 1415 42 rfl rfl
theorem zy_1416 : code.data.toList[1416]? = some 21 := zt_22 8 1416 21 rfl rfl
theorem zy_1417 : code.data.toList[1417]? = some 4 := zt_22 9 1417 4 rfl rfl
theorem zy_1418 : code.data.toList[1418]? = some 4 := zt_22 10 1418 4 rfl rfl
theorem zy_1419 : code.data.toList[1419]? = some 96 := zt_22 11 1419 96 rfl rfl
theorem zy_1420 : code.data.toList[1420]? = some 46 := zt_22 12 1420 46 rfl rfl
theorem zy_1421 : code.data.toList[1421]? = some 42 := zt_22 13 1421 42 rfl rfl
theorem zy_1422 : code.data.toList[1422]? = some 21 := zt_22 14 1422 21 rfl rfl
theorem zy_1423 : code.data.toList[1423]? = some 4 := zt_22 15 1423 4 rfl rfl
theorem zy_1424 : code.data.toList[1424]? = some 5 := zt_22 16 1424 5 rfl rfl
theorem zy_1425 : code.data.toList[1425]? = some 96 := zt_22 17 1425 96 rfl rfl
theorem zy_1426 : code.data.toList[1426]? = some 46 := zt_22 18 1426 46 rfl rfl
theorem zy_1427 : code.data.toList[1427]? = some 182 := zt_22 19 1427 182 rfl rfl
theorem zy_1428 : code.data.toList[1428]? = some 0 := zt_22 20 1428 0 rfl rfl
theorem zy_1429 : code.data.toList[1429]? = some 166 := zt_22 21 1429 166 rfl rfl
theorem zy_1430 : code.data.toList[1430]? = some 87 := zt_22 22 1430 87 rfl rfl
theorem zy_1431 : code.data.toList[1431]? = some 44 := zt_22 23 1431 44 rfl rfl
theorem zy_1432 : code.data.toList[1432]? = some 42 := zt_22 24 1432 42 rfl rfl
theorem zy_1433 : code.data.toList[1433]? = some 21 := zt_22 25 1433 21 rfl rfl
theorem zy_1434 : code.data.toList[1434]? = some 4 := zt_22 26 1434 4 rfl rfl
theorem zy_1435 : code.data.toList[1435]? = some 4 := zt_22 27 1435 4 rfl rfl
theorem zy_1436 : code.data.toList[1436]? = some 96 := zt_22 28 1436 96 rfl rfl
theorem zy_1437 : code.data.toList[1437]? = some 46 := zt_22 29 1437 46 rfl rfl
theorem zy_1438 : code.data.toList[1438]? = some 42 := zt_22 30 1438 42 rfl rfl
theorem zy_1439 : code.data.toList[1439]? = some 21 := zt_22 31 1439 21 rfl rfl
theorem zy_1440 : code.data.toList[1440]? = some 4 := zt_22 32 1440 4 rfl rfl
theorem zy_1441 : code.data.toList[1441]? = some 5 := zt_22 33 1441 5 rfl rfl
theorem zy_1442 : code.data.toList[1442]? = some 96 := zt_22 34 1442 96 rfl rfl
theorem zy_1443 : code.data.toList[1443]? = some 46 := zt_22 35 1443 46 rfl rfl
theorem zy_1444 : code.data.toList[1444]? = some 182 := zt_22 36 1444 182 rfl rfl
theorem zy_1445 : code.data.toList[1445]? = some 0 := zt_22 37 1445 0 rfl rfl
theorem zy_1446 : code.data.toList[1446]? = some 169 := zt_22 38 1446 169 rfl rfl
theorem zy_1447 : code.data.toList[1447]? = some 87 := zt_22 39 1447 87 rfl rfl
theorem zy_1451 : code.data.toList[1451]? = some 43 := zt_22 43 1451 43 rfl rfl
theorem zy_1452 : code.data.toList[1452]? = some 42 := zt_22 44 1452 42 rfl rfl
theorem zy_1453 : code.data.toList[1453]? = some 21 := zt_22 45 1453 21 rfl rfl
theorem zy_1454 : code.data.toList[1454]? = some 4 := zt_22 46 1454 4 rfl rfl
theorem zy_1455 : code.data.toList[1455]? = some 4 := zt_22 47 1455 4 rfl rfl
theorem zy_1456 : code.data.toList[1456]? = some 96 := zt_22 48 1456 96 rfl rfl
theorem zy_1457 : code.data.toList[1457]? = some 46 := zt_22 49 1457 46 rfl rfl
theorem zy_1458 : code.data.toList[1458]? = some 42 := zt_22 50 1458 42 rfl rfl
theorem zy_1459 : code.data.toList[1459]? = some 21 := zt_22 51 1459 21 rfl rfl
theorem zy_1460 : code.data.toList[1460]? = some 4 := zt_22 52 1460 4 rfl rfl
theorem zy_1461 : code.data.toList[1461]? = some 5 := zt_22 53 1461 5 rfl rfl
theorem zy_1462 : code.data.toList[1462]? = some 96 := zt_22 54 1462 96 rfl rfl
theorem zy_1463 : code.data.toList[1463]? = some 46 := zt_22 55 1463 46 rfl rfl
theorem zy_1464 : code.data.toList[1464]? = some 182 := zt_22 56 1464 182 rfl rfl
theorem zy_1465 : code.data.toList[1465]? = some 0 := zt_22 57 1465 0 rfl rfl
theorem zy_1466 : code.data.toList[1466]? = some 170 := zt_22 58 1466 170 rfl rfl
theorem zy_1467 : code.data.toList[1467]? = some 87 := zt_22 59 1467 87 rfl rfl
theorem zy_1468 : code.data.toList[1468]? = some 44 := zt_22 60 1468 44 rfl rfl
theorem zy_1469 : code.data.toList[1469]? = some 42 := zt_22 61 1469 42 rfl rfl
theorem zy_1470 : code.data.toList[1470]? = some 21 := zt_22 62 1470 21 rfl rfl
theorem zy_1471 : code.data.toList[1471]? = some 4 := zt_22 63 1471 4 rfl rfl
theorem zy_1472 : code.data.toList[1472]? = some 4 := zt_23 0 1472 4 rfl rfl
theorem zy_1473 : code.data.toList[1473]? = some 96 := zt_23 1 1473 96 rfl rfl
theorem zy_1474 : code.data.toList[1474]? = some 46 := zt_23 2 1474 46 rfl rfl
theorem zy_1475 : code.data.toList[1475]? = some 42 := zt_23 3 1475 42 rfl rfl
theorem zy_1476 : code.data.toList[1476]? = some 21 := zt_23 4 1476 21 rfl rfl
theorem zy_1477 : code.data.toList[1477]? = some 4 := zt_23 5 1477 4 rfl rfl
theorem zy_1478 : code.data.toList[1478]? = some 5 := zt_23 6 1478 5 rfl rfl
theorem zy_1479 : code.data.toList[1479]? = some 96 := zt_23 7 1479 96 rfl rfl
theorem zy_1480 : code.data.toList[1480]? = some 46 := zt_23 8 1480 46 rfl rfl
theorem zy_1481 : code.data.toList[1481]? = some 182 := zt_23 9 1481 182 rfl rfl
theorem zy_1482 : code.data.toList[1482]? = some 0 := zt_23 10 1482 0 rfl rfl
theorem zy_1483 : code.data.toList[1483]? = some 173 := zt_23 11 1483 173 rfl rfl
theorem zy_1484 : code.data.toList[1484]? = some 87 := zt_23 12 1484 87 rfl rfl
theorem zy_1488 : code.data.toList[1488]? = some 43 := zt_23 16 1488 43 rfl rfl
theorem zy_1489 : code.data.toList[1489]? = some 42 := zt_23 17 1489 42 rfl rfl
theorem zy_1490 : code.data.toList[1490]? = some 21 := zt_23 18 1490 21 rfl rfl
theorem zy_1491 : code.data.toList[1491]? = some 4 := zt_23 19 1491 4 rfl rfl
theorem zy_1492 : code.data.toList[1492]? = some 4 := zt_23 20 1492 4 rfl rfl
theorem zy_1493 : code.data.toList[1493]? = some 96 := zt_23 21 1493 96 rfl rfl
theorem zy_1494 : code.data.toList[1494]? = some 46 := zt_23 22 1494 46 rfl rfl
theorem zy_1495 : code.data.toList[1495]? = some 182 := zt_23 23 1495 182 rfl rfl
theorem zy_1496 : code.data.toList[1496]? = some 0 := zt_23 24 1496 0 rfl rfl
theorem zy_1497 : code.data.toList[1497]? = some 174 := zt_23 25 1497 174 rfl rfl
theorem zy_1498 : code.data.toList[1498]? = some 87 := zt_23 26 1498 87 rfl rfl
theorem zy_1499 : code.data.toList[1499]? = some 44 := zt_23 27 1499 44 rfl rfl
theorem zy_1500 : code.data.toList[1500]? = some 42 := zt_23 28 1500 42 rfl rfl
theorem zy_1501 : code.data.toList[1501]? = some 21 := zt_23 29 1501 21 rfl rfl
theorem zy_1502 : code.data.toList[1502]? = some 4 := zt_23 30 1502 4 rfl rfl
theorem zy_1503 : code.data.toList[1503]? = some 4 := zt_23 31 1503 4 rfl rfl
theorem zy_1504 : code.data.toList[1504]? = some 96 := zt_23 32 1504 96 rfl rfl
theorem zy_1505 : code.data.toList[1505]? = some 46 := zt_23 33 1505 46 rfl rfl
theorem zy_1506 : code.data.toList[1506]? = some 182 := zt_23 34 1506 182 rfl rfl
theorem zy_1507 : code.data.toList[1507]? = some 0 := zt_23 35 1507 0 rfl rfl
theorem zy_1508 : code.data.toList[1508]? = some 177 := zt_23 36 1508 177 rfl rfl
theorem zy_1509 : code.data.toList[1509]? = some 87 := zt_23 37 1509 87 rfl rfl
theorem zy_1513 : code.data.toList[1513]? = some 43 := zt_23 41 1513 43 rfl rfl
theorem zy_1514 : code.data.toList[1514]? = some 42 := zt_23 42 1514 42 rfl rfl
theorem zy_1515 : code.data.toList[1515]? = some 21 := zt_23 43 1515 21 rfl rfl
theorem zy_1516 : code.data.toList[1516]? = some 4 := zt_23 44 1516 4 rfl rfl
theorem zy_1517 : code.data.toList[1517]? = some 4 := zt_23 45 1517 4 rfl rfl
theorem zy_1518 : code.data.toList[1518]? = some 96 := zt_23 46 1518 96 rfl rfl
theorem zy_1519 : code.data.toList[1519]? = some 46 := zt_23 47 1519 46 rfl rfl
theorem zy_1520 : code.data.toList[1520]? = some 42 := zt_23 48 1520 42 rfl rfl
theorem zy_1521 : code.data.toList[1521]? = some 21 := zt_23 49 1521 21 rfl rfl
theorem zy_1522 : code.data.toList[1522]? = some 4 := zt_23 50 1522 4 rfl rfl
theorem zy_1523 : code.data.toList[1523]? = some 5 := zt_23 51 1523 5 rfl rfl
theorem zy_1524 : code.data.toList[1524]? = some 96 := zt_23 52 1524 96 rfl rfl
theorem zy_1525 : code.data.toList[1525]? = some 46 := zt_23 53 1525 46 rfl rfl
theorem zy_1526 : code.data.toList[1526]? = some 182 := zt_23 54 1526 182 rfl rfl
theorem zy_1527 : code.data.toList[1527]? = some 0 := zt_23 55 1527 0 rfl rfl
theorem zy_1528 : code.data.toList[1528]? = some 178 := zt_23 56 1528 178 rfl rfl
theorem zy_1529 : code.data.toList[1529]? = some 87 := zt_23 57 1529 87 rfl rfl
theorem zy_1530 : code.data.toList[1530]? = some 44 := zt_23 58 1530 44 rfl rfl
theorem zy_1531 : code.data.toList[1531]? = some 42 := zt_23 59 1531 42 rfl rfl
theorem zy_1532 : code.data.toList[1532]? = some 21 := zt_23 60 1532 21 rfl rfl
theorem zy_1533 : code.data.toList[1533]? = some 4 := zt_23 61 1533 4 rfl rfl
theorem zy_1534 : code.data.toList[1534]? = some 4 := zt_23 62 1534 4 rfl rfl
theorem zy_1535 : code.data.toList[1535]? = some 96 := zt_23 63 1535 96 rfl rfl
theorem zy_1536 : code.data.toList[1536]? = some 46 := zt_24 0 1536 46 rfl rfl
theorem zy_1537 : code.data.toList[1537]? = some 42 := zt_24 1 1537 42 rfl rfl
theorem zy_1538 : code.data.toList[1538]? = some 21 := zt_24 2 1538 21 rfl rfl
theorem zy_1539 : code.data.toList[1539]? = some 4 := zt_24 3 1539 4 rfl rfl
theorem zy_1540 : code.data.toList[1540]? = some 5 := zt_24 4 1540 5 rfl rfl
theorem zy_1541 : code.data.toList[1541]? = some 96 := zt_24 5 1541 96 rfl rfl
theorem zy_1542 : code.data.toList[1542]? = some 46 := zt_24 6 1542 46 rfl rfl
theorem zy_1543 : code.data.toList[1543]? = some 182 := zt_24 7 1543 182 rfl rfl
theorem zy_1544 : code.data.toList[1544]? = some 0 := zt_24 8 1544 0 rfl rfl
theorem zy_1545 : code.data.toList[1545]? = some 181 := zt_24 9 1545 181 rfl rfl
theorem zy_1546 : code.data.toList[1546]? = some 87 := zt_24 10 1546 87 rfl rfl
theorem zy_1550 : code.data.toList[1550]? = some 43 := zt_24 14 1550 43 rfl rfl
theorem zy_1551 : code.data.toList[1551]? = some 42 := zt_24 15 1551 42 rfl rfl
theorem zy_1552 : code.data.toList[1552]? = some 21 := zt_24 16 1552 21 rfl rfl
theorem zy_1553 : code.data.toList[1553]? = some 4 := zt_24 17 1553 4 rfl rfl
theorem zy_1554 : code.data.toList[1554]? = some 4 := zt_24 18 1554 4 rfl rfl
theorem zy_1555 : code.data.toList[1555]? = some 96 := zt_24 19 1555 96 rfl rfl
theorem zy_1556 : code.data.toList[1556]? = some 46 := zt_24 20 1556 46 rfl rfl
theorem zy_1557 : code.data.toList[1557]? = some 42 := zt_24 21 1557 42 rfl rfl
theorem zy_1558 : code.data.toList[1558]? = some 21 := zt_24 22 1558 21 rfl rfl
theorem zy_1559 : code.data.toList[1559]? = some 4 := zt_24 23 1559 4 rfl rfl
theorem zy_1560 : code.data.toList[1560]? = some 5 := zt_24 24 1560 5 rfl rfl
theorem zy_1561 : code.data.toList[1561]? = some 96 := zt_24 25 1561 96 rfl rfl
theorem zy_1562 : code.data.toList[1562]? = some 46 := zt_24 26 1562 46 rfl rfl
theorem zy_1563 : code.data.toList[1563]? = some 42 := zt_24 27 1563 42 rfl rfl
theorem zy_1564 : code.data.toList[1564]? = some 21 := zt_24 28 1564 21 rfl rfl
theorem zy_1565 : code.data.toList[1565]? = some 4 := zt_24 29 1565 4 rfl rfl
theorem zy_1566 : code.data.toList[1566]? = some 6 := zt_24 30 1566 6 rfl rfl
theorem zy_1567 : code.data.toList[1567]? = some 96 := zt_24 31 1567 96 rfl rfl
theorem zy_1568 : code.data.toList[1568]? = some 46 := zt_24 32 1568 46 rfl rfl
theorem zy_1569 : code.data.toList[1569]? = some 182 := zt_24 33 1569 182 rfl rfl
theorem zy_1570 : code.data.toList[1570]? = some 0 := zt_24 34 1570 0 rfl rfl
theorem zy_1571 : code.data.toList[1571]? = some 182 := zt_24 35 1571 182 rfl rfl
theorem zy_1572 : code.data.toList[1572]? = some 87 := zt_24 36 1572 87 rfl rfl
theorem zy_1573 : code.data.toList[1573]? = some 44 := zt_24 37 1573 44 rfl rfl
theorem zy_1574 : code.data.toList[1574]? = some 42 := zt_24 38 1574 42 rfl rfl
theorem zy_1575 : code.data.toList[1575]? = some 21 := zt_24 39 1575 21 rfl rfl
theorem zy_1576 : code.data.toList[1576]? = some 4 := zt_24 40 1576 4 rfl rfl
theorem zy_1577 : code.data.toList[1577]? = some 4 := zt_24 41 1577 4 rfl rfl
theorem zy_1578 : code.data.toList[1578]? = some 96 := zt_24 42 1578 96 rfl rfl
theorem zy_1579 : code.data.toList[1579]? = some 46 := zt_24 43 1579 46 rfl rfl
theorem zy_1580 : code.data.toList[1580]? = some 42 := zt_24 44 1580 42 rfl rfl
theorem zy_1581 : code.data.toList[1581]? = some 21 := zt_24 45 1581 21 rfl rfl
theorem zy_1582 : code.data.toList[1582]? = some 4 := zt_24 46 1582 4 rfl rfl
theorem zy_1583 : code.data.toList[1583]? = some 5 := zt_24 47 1583 5 rfl rfl
theorem zy_1584 : code.data.toList[1584]? = some 96 := zt_24 48 1584 96 rfl rfl
theorem zy_1585 : code.data.toList[1585]? = some 46 := zt_24 49 1585 46 rfl rfl
theorem zy_1586 : code.data.toList[1586]? = some 42 := zt_24 50 1586 42 rfl rfl
theorem zy_1587 : code.data.toList[1587]? = some 21 := zt_24 51 1587 21 rfl rfl
theorem zy_1588 : code.data.toList[1588]? = some 4 := zt_24 52 1588 4 rfl rfl
theorem zy_1589 : code.data.toList[1589]? = some 6 := zt_24 53 1589 6 rfl rfl
theorem zy_1590 : code.data.toList[1590]? = some 96 := zt_24 54 1590 96 rfl rfl
theorem zy_1591 : code.data.toList[1591]? = some 46 := zt_24 55 1591 46 rfl rfl
theorem zy_1592 : code.data.toList[1592]? = some 182 := zt_24 56 1592 182 rfl rfl
theorem zy_1593 : code.data.toList[1593]? = some 0 := zt_24 57 1593 0 rfl rfl
theorem zy_1594 : code.data.toList[1594]? = some 185 := zt_24 58 1594 185 rfl rfl
theorem zy_1595 : code.data.toList[1595]? = some 87 := zt_24 59 1595 87 rfl rfl
theorem zy_1599 : code.data.toList[1599]? = some 43 := zt_24 63 1599 43 rfl rfl
theorem zy_1600 : code.data.toList[1600]? = some 42 := zt_25 0 1600 42 rfl rfl
theorem zy_1601 : code.data.toList[1601]? = some 21 := zt_25 1 1601 21 rfl rfl
theorem zy_1602 : code.data.toList[1602]? = some 4 := zt_25 2 1602 4 rfl rfl
theorem zy_1603 : code.data.toList[1603]? = some 4 := zt_25 3 1603 4 rfl rfl
theorem zy_1604 : code.data.toList[1604]? = some 96 := zt_25 4 1604 96 rfl rfl
theorem zy_1605 : code.data.toList[1605]? = some 46 := zt_25 5 1605 46 rfl rfl
theorem zy_1606 : code.data.toList[1606]? = some 182 := zt_25 6 1606 182 rfl rfl
theorem zy_1607 : code.data.toList[1607]? = some 0 := zt_25 7 1607 0 rfl rfl
theorem zy_1608 : code.data.toList[1608]? = some 186 := zt_25 8 1608 186 rfl rfl
theorem zy_1609 : code.data.toList[1609]? = some 87 := zt_25 9 1609 87 rfl rfl
theorem zy_1610 : code.data.toList[1610]? = some 44 := zt_25 10 1610 44 rfl rfl
theorem zy_1611 : code.data.toList[1611]? = some 42 := zt_25 11 1611 42 rfl rfl
theorem zy_1612 : code.data.toList[1612]? = some 21 := zt_25 12 1612 21 rfl rfl
theorem zy_1613 : code.data.toList[1613]? = some 4 := zt_25 13 1613 4 rfl rfl
theorem zy_1614 : code.data.toList[1614]? = some 4 := zt_25 14 1614 4 rfl rfl
theorem zy_1615 : code.data.toList[1615]? = some 96 := zt_25 15 1615 96 rfl rfl
theorem zy_1616 : code.data.toList[1616]? = some 46 := zt_25 16 1616 46 rfl rfl
theorem zy_1617 : code.data.toList[1617]? = some 182 := zt_25 17 1617 182 rfl rfl
theorem zy_1618 : code.data.toList[1618]? = some 0 := zt_25 18 1618 0 rfl rfl
theorem zy_1619 : code.data.toList[1619]? = some 189 := zt_25 19 1619 189 rfl rfl
theorem zy_1620 : code.data.toList[1620]? = some 87 := zt_25 20 1620 87 rfl rfl
theorem zy_1624 : code.data.toList[1624]? = some 43 := zt_25 24 1624 43 rfl rfl
theorem zy_1625 : code.data.toList[1625]? = some 42 := zt_25 25 1625 42 rfl rfl
theorem zy_1626 : code.data.toList[1626]? = some 21 := zt_25 26 1626 21 rfl rfl
theorem zy_1627 : code.data.toList[1627]? = some 4 := zt_25 27 1627 4 rfl rfl
theorem zy_1628 : code.data.toList[1628]? = some 4 := zt_25 28 1628 4 rfl rfl
theorem zy_1629 : code.data.toList[1629]? = some 96 := zt_25 29 1629 96 rfl rfl
theorem zy_1630 : code.data.toList[1630]? = some 46 := zt_25 30 1630 46 rfl rfl
theorem zy_1631 : code.data.toList[1631]? = some 182 := zt_25 31 1631 182 rfl rfl
theorem zy_1632 : code.data.toList[1632]? = some 0 := zt_25 32 1632 0 rfl rfl
theorem zy_1633 : code.data.toList[1633]? = some 190 := zt_25 33 1633 190 rfl rfl
theorem zy_1634 : code.data.toList[1634]? = some 87 := zt_25 34 1634 87 rfl rfl
theorem zy_1635 : code.data.toList[1635]? = some 44 := zt_25 35 1635 44 rfl rfl
theorem zy_1636 : code.data.toList[1636]? = some 42 := zt_25 36 1636 42 rfl rfl
theorem zy_1637 : code.data.toList[1637]? = some 21 := zt_25 37 1637 21 rfl rfl
theorem zy_1638 : code.data.toList[1638]? = some 4 := zt_25 38 1638 4 rfl rfl
theorem zy_1639 : code.data.toList[1639]? = some 4 := zt_25 39 1639 4 rfl rfl
theorem zy_1640 : code.data.toList[1640]? = some 96 := zt_25 40 1640 96 rfl rfl
theorem zy_1641 : code.data.toList[1641]? = some 46 := zt_25 41 1641 46 rfl rfl
theorem zy_1642 : code.data.toList[1642]? = some 182 := zt_25 42 1642 182 rfl rfl
theorem zy_1643 : code.data.toList[1643]? = some 0 := zt_25 43 1643 0 rfl rfl
theorem zy_1644 : code.data.toList[1644]? = some 193 := zt_25 44 1644 193 rfl rfl
theorem zy_1645 : code.data.toList[1645]? = some 87 := zt_25 45 1645 87 rfl rfl
theorem zy_1649 : code.data.toList[1649]? = some 43 := zt_25 49 1649 43 rfl rfl
theorem zy_1650 : code.data.toList[1650]? = some 42 := zt_25 50 1650 42 rfl rfl
theorem zy_1651 : code.data.toList[1651]? = some 21 := zt_25 51 1651 21 rfl rfl
theorem zy_1652 : code.data.toList[1652]? = some 4 := zt_25 52 1652 4 rfl rfl
theorem zy_1653 : code.data.toList[1653]? = some 4 := zt_25 53 1653 4 rfl rfl
theorem zy_1654 : code.data.toList[1654]? = some 96 := zt_25 54 1654 96 rfl rfl
theorem zy_1655 : code.data.toList[1655]? = some 46 := zt_25 55 1655 46 rfl rfl
theorem zy_1656 : code.data.toList[1656]? = some 182 := zt_25 56 1656 182 rfl rfl
theorem zy_1657 : code.data.toList[1657]? = some 0 := zt_25 57 1657 0 rfl rfl
theorem zy_1658 : code.data.toList[1658]? = some 194 := zt_25 58 1658 194 rfl rfl
theorem zy_1659 : code.data.toList[1659]? = some 87 := zt_25 59 1659 87 rfl rfl
theorem zy_1660 : code.data.toList[1660]? = some 44 := zt_25 60 1660 44 rfl rfl
theorem zy_1661 : code.data.toList[1661]? = some 42 := zt_25 61 1661 42 rfl rfl
theorem zy_1662 : code.data.toList[1662]? = some 21 := zt_25 62 1662 21 rfl rfl
theorem zy_1663 : code.data.toList[1663]? = some 4 := zt_25 63 1663 4 rfl rfl
theorem zy_1664 : code.data.toList[1664]? = some 4 := zt_26 0 1664 4 rfl rfl
theorem zy_1665 : code.data.toList[1665]? = some 96 := zt_26 1 1665 96 rfl rfl
theorem zy_1666 : code.data.toList[1666]? = some 46 := zt_26 2 1666 46 rfl rfl
theorem zy_1667 : code.data.toList[1667]? = some 182 := zt_26 3 1667 182 rfl rfl
theorem zy_1668 : code.data.toList[1668]? = some 0 := zt_26 4 1668 0 rfl rfl
theorem zy_1669 : code.data.toList[1669]? = some 197 := zt_26 5 1669 197 rfl rfl
theorem zy_1670 : code.data.toList[1670]? = some 87 := zt_26 6 1670 87 rfl rfl
theorem zy_1674 : code.data.toList[1674]? = some 43 := zt_26 10 1674 43 rfl rfl
theorem zy_1675 : code.data.toList[1675]? = some 42 := zt_26 11 1675 42 rfl rfl
theorem zy_1676 : code.data.toList[1676]? = some 21 := zt_26 12 1676 21 rfl rfl
theorem zy_1677 : code.data.toList[1677]? = some 4 := zt_26 13 1677 4 rfl rfl
theorem zy_1678 : code.data.toList[1678]? = some 4 := zt_26 14 1678 4 rfl rfl
theorem zy_1679 : code.data.toList[1679]? = some 96 := zt_26 15 1679 96 rfl rfl
theorem zy_1680 : code.data.toList[1680]? = some 46 := zt_26 16 1680 46 rfl rfl
theorem zy_1681 : code.data.toList[1681]? = some 182 := zt_26 17 1681 182 rfl rfl
theorem zy_1682 : code.data.toList[1682]? = some 0 := zt_26 18 1682 0 rfl rfl
theorem zy_1683 : code.data.toList[1683]? = some 198 := zt_26 19 1683 198 rfl rfl
theorem zy_1684 : code.data.toList[1684]? = some 87 := zt_26 20 1684 87 rfl rfl
theorem zy_1685 : code.data.toList[1685]? = some 44 := zt_26 21 1685 44 rfl rfl
theorem zy_1686 : code.data.toList[1686]? = some 42 := zt_26 22 1686 42 rfl rfl
theorem zy_1687 : code.data.toList[1687]? = some 21 := zt_26 23 1687 21 rfl rfl
theorem zy_1688 : code.data.toList[1688]? = some 4 := zt_26 24 1688 4 rfl rfl
theorem zy_1689 : code.data.toList[1689]? = some 4 := zt_26 25 1689 4 rfl rfl
theorem zy_1690 : code.data.toList[1690]? = some 96 := zt_26 26 1690 96 rfl rfl
theorem zy_1691 : code.data.toList[1691]? = some 46 := zt_26 27 1691 46 rfl rfl
theorem zy_1692 : code.data.toList[1692]? = some 182 := zt_26 28 1692 182 rfl rfl
theorem zy_1693 : code.data.toList[1693]? = some 0 := zt_26 29 1693 0 rfl rfl
theorem zy_1694 : code.data.toList[1694]? = some 201 := zt_26 30 1694 201 rfl rfl
theorem zy_1695 : code.data.toList[1695]? = some 87 := zt_26 31 1695 87 rfl rfl
theorem zy_1699 : code.data.toList[1699]? = some 43 := zt_26 35 1699 43 rfl rfl
theorem zy_1700 : code.data.toList[1700]? = some 42 := zt_26 36 1700 42 rfl rfl
theorem zy_1701 : code.data.toList[1701]? = some 21 := zt_26 37 1701 21 rfl rfl
theorem zy_1702 : code.data.toList[1702]? = some 4 := zt_26 38 1702 4 rfl rfl
theorem zy_1703 : code.data.toList[1703]? = some 4 := zt_26 39 1703 4 rfl rfl
theorem zy_1704 : code.data.toList[1704]? = some 96 := zt_26 40 1704 96 rfl rfl
theorem zy_1705 : code.data.toList[1705]? = some 46 := zt_26 41 1705 46 rfl rfl
theorem zy_1706 : code.data.toList[1706]? = some 182 := zt_26 42 1706 182 rfl rfl
theorem zy_1707 : code.data.toList[1707]? = some 0 := zt_26 43 1707 0 rfl rfl
theorem zy_1708 : code.data.toList[1708]? = some 202 := zt_26 44 1708 202 rfl rfl
theorem zy_1709 : code.data.toList[1709]? = some 87 := zt_26 45 1709 87 rfl rfl
theorem zy_1710 : code.data.toList[1710]? = some 44 := zt_26 46 1710 44 rfl rfl
theorem zy_1711 : code.data.toList[1711]? = some 42 := zt_26 47 1711 42 rfl rfl
theorem zy_1712 : code.data.toList[1712]? = some 21 := zt_26 48 1712 21 rfl rfl
theorem zy_1713 : code.data.toList[1713]? = some 4 := zt_26 49 1713 4 rfl rfl
theorem zy_1714 : code.data.toList[1714]? = some 4 := zt_26 50 1714 4 rfl rfl
theorem zy_1715 : code.data.toList[1715]? = some 96 := zt_26 51 1715 96 rfl rfl
theorem zy_1716 : code.data.toList[1716]? = some 46 := zt_26 52 1716 46 rfl rfl
theorem zy_1717 : code.data.toList[1717]? = some 182 := zt_26 53 1717 182 rfl rfl
theorem zy_1718 : code.data.toList[1718]? = some 0 := zt_26 54 1718 0 rfl rfl
theorem zy_1719 : code.data.toList[1719]? = some 205 := zt_26 55 1719 205 rfl rfl
theorem zy_1720 : code.data.toList[1720]? = some 87 := zt_26 56 1720 87 rfl rfl
theorem zy_1724 : code.data.toList[1724]? = some 43 := zt_26 60 1724 43 rfl rfl
theorem zy_1725 : code.data.toList[1725]? = some 42 := zt_26 61 1725 42 rfl rfl
theorem zy_1726 : code.data.toList[1726]? = some 21 := zt_26 62 1726 21 rfl rfl
theorem zy_1727 : code.data.toList[1727]? = some 4 := zt_26 63 1727 4 rfl rfl
theorem zy_1728 : code.data.toList[1728]? = some 4 := zt_27 0 1728 4 rfl rfl
theorem zy_1729 : code.data.toList[1729]? = some 96 := zt_27 1 1729 96 rfl rfl
theorem zy_1730 : code.data.toList[1730]? = some 46 := zt_27 2 1730 46 rfl rfl
theorem zy_1731 : code.data.toList[1731]? = some 182 := zt_27 3 1731 182 rfl rfl
theorem zy_1732 : code.data.toList[1732]? = some 0 := zt_27 4 1732 0 rfl rfl
theorem zy_1733 : code.data.toList[1733]? = some 206 := zt_27 5 1733 206 rfl rfl
theorem zy_1734 : code.data.toList[1734]? = some 87 := zt_27 6 1734 87 rfl rfl
theorem zy_1735 : code.data.toList[1735]? = some 44 := zt_27 7 1735 44 rfl rfl
theorem zy_1736 : code.data.toList[1736]? = some 42 := zt_27 8 1736 42 rfl rfl
theorem zy_1737 : code.data.toList[1737]? = some 21 := zt_27 9 1737 21 rfl rfl
theorem zy_1738 : code.data.toList[1738]? = some 4 := zt_27 10 1738 4 rfl rfl
theorem zy_1739 : code.data.toList[1739]? = some 4 := zt_27 11 1739 4 rfl rfl
theorem zy_1740 : code.data.toList[1740]? = some 96 := zt_27 12 1740 96 rfl rfl
theorem zy_1741 : code.data.toList[1741]? = some 46 := zt_27 13 1741 46 rfl rfl
theorem zy_1742 : code.data.toList[1742]? = some 182 := zt_27 14 1742 182 rfl rfl
theorem zy_1743 : code.data.toList[1743]? = some 0 := zt_27 15 1743 0 rfl rfl
theorem zy_1744 : code.data.toList[1744]? = some 209 := zt_27 16 1744 209 rfl rfl
theorem zy_1745 : code.data.toList[1745]? = some 87 := zt_27 17 1745 87 rfl rfl
theorem zy_1749 : code.data.toList[1749]? = some 43 := zt_27 21 1749 43 rfl rfl
theorem zy_1750 : code.data.toList[1750]? = some 42 := zt_27 22 1750 42 rfl rfl
theorem zy_1751 : code.data.toList[1751]? = some 21 := zt_27 23 1751 21 rfl rfl
theorem zy_1752 : code.data.toList[1752]? = some 4 := zt_27 24 1752 4 rfl rfl
theorem zy_1753 : code.data.toList[1753]? = some 4 := zt_27 25 1753 4 rfl rfl
theorem zy_1754 : code.data.toList[1754]? = some 96 := zt_27 26 1754 96 rfl rfl
theorem zy_1755 : code.data.toList[1755]? = some 46 := zt_27 27 1755 46 rfl rfl
theorem zy_1756 : code.data.toList[1756]? = some 182 := zt_27 28 1756 182 rfl rfl
theorem zy_1757 : code.data.toList[1757]? = some 0 := zt_27 29 1757 0 rfl rfl
theorem zy_1758 : code.data.toList[1758]? = some 210 := zt_27 30 1758 210 rfl rfl
theorem zy_1759 : code.data.toList[1759]? = some 87 := zt_27 31 1759 87 rfl rfl
theorem zy_1760 : code.data.toList[1760]? = some 44 := zt_27 32 1760 44 rfl rfl
theorem zy_1761 : code.data.toList[1761]? = some 42 := zt_27 33 1761 42 rfl rfl
theorem zy_1762 : code.data.toList[1762]? = some 21 := zt_27 34 1762 21 rfl rfl
theorem zy_1763 : code.data.toList[1763]? = some 4 := zt_27 35 1763 4 rfl rfl
theorem zy_1764 : code.data.toList[1764]? = some 4 := zt_27 36 1764 4 rfl rfl
theorem zy_1765 : code.data.toList[1765]? = some 96 := zt_27 37 1765 96 rfl rfl
theorem zy_1766 : code.data.toList[1766]? = some 46 := zt_27 38 1766 46 rfl rfl
theorem zy_1767 : code.data.toList[1767]? = some 182 := zt_27 39 1767 182 rfl rfl
theorem zy_1768 : code.data.toList[1768]? = some 0 := zt_27 40 1768 0 rfl rfl
theorem zy_1769 : code.data.toList[1769]? = some 213 := zt_27 41 1769 213 rfl rfl
theorem zy_1770 : code.data.toList[1770]? = some 87 := zt_27 42 1770 87 rfl rfl
theorem zy_1774 : code.data.toList[1774]? = some 43 := zt_27 46 1774 43 rfl rfl
theorem zy_1775 : code.data.toList[1775]? = some 182 := zt_27 47 1775 182 rfl rfl
theorem zy_1776 : code.data.toList[1776]? = some 0 := zt_27 48 1776 0 rfl rfl
theorem zy_1777 : code.data.toList[1777]? = some 214 := zt_27 49 1777 214 rfl rfl
theorem zy_1778 : code.data.toList[1778]? = some 87 := zt_27 50 1778 87 rfl rfl
theorem zy_1779 : code.data.toList[1779]? = some 44 := zt_27 51 1779 44 rfl rfl
theorem zy_1780 : code.data.toList[1780]? = some 182 := zt_27 52 1780 182 rfl rfl
theorem zy_1781 : code.data.toList[1781]? = some 0 := zt_27 53 1781 0 rfl rfl
theorem zy_1782 : code.data.toList[1782]? = some 217 := zt_27 54 1782 217 rfl rfl
theorem zy_1783 : code.data.toList[1783]? = some 87 := zt_27 55 1783 87 rfl rfl
theorem zy_1787 : code.data.toList[1787]? = some 43 := zt_27 59 1787 43 rfl rfl
theorem zy_1788 : code.data.toList[1788]? = some 182 := zt_27 60 1788 182 rfl rfl
theorem zy_1789 : code.data.toList[1789]? = some 0 := zt_27 61 1789 0 rfl rfl
theorem zy_1790 : code.data.toList[1790]? = some 218 := zt_27 62 1790 218 rfl rfl
theorem zy_1791 : code.data.toList[1791]? = some 87 := zt_27 63 1791 87 rfl rfl
theorem zy_1792 : code.data.toList[1792]? = some 44 := zt_28 0 1792 44 rfl rfl
theorem zy_1793 : code.data.toList[1793]? = some 182 := zt_28 1 1793 182 rfl rfl
theorem zy_1794 : code.data.toList[1794]? = some 0 := zt_28 2 1794 0 rfl rfl
theorem zy_1795 : code.data.toList[1795]? = some 221 := zt_28 3 1795 221 rfl rfl
theorem zy_1796 : code.data.toList[1796]? = some 87 := zt_28 4 1796 87 rfl rfl
theorem zy_1800 : code.data.toList[1800]? = some 43 := zt_28 8 1800 43 rfl rfl
theorem zy_1801 : code.data.toList[1801]? = some 42 := zt_28 9 1801 42 rfl rfl
theorem zy_1802 : code.data.toList[1802]? = some 21 := zt_28 10 1802 21 rfl rfl
theorem zy_1803 : code.data.toList[1803]? = some 4 := zt_28 11 1803 4 rfl rfl
theorem zy_1804 : code.data.toList[1804]? = some 4 := zt_28 12 1804 4 rfl rfl
theorem zy_1805 : code.data.toList[1805]? = some 96 := zt_28 13 1805 96 rfl rfl
theorem zy_1806 : code.data.toList[1806]? = some 46 := zt_28 14 1806 46 rfl rfl
theorem zy_1807 : code.data.toList[1807]? = some 182 := zt_28 15 1807 182 rfl rfl
theorem zy_1808 : code.data.toList[1808]? = some 0 := zt_28 16 1808 0 rfl rfl
theorem zy_1809 : code.data.toList[1809]? = some 222 := zt_28 17 1809 222 rfl rfl
theorem zy_1810 : code.data.toList[1810]? = some 87 := zt_28 18 1810 87 rfl rfl
theorem zy_1811 : code.data.toList[1811]? = some 44 := zt_28 19 1811 44 rfl rfl
theorem zy_1812 : code.data.toList[1812]? = some 42 := zt_28 20 1812 42 rfl rfl
theorem zy_1813 : code.data.toList[1813]? = some 21 := zt_28 21 1813 21 rfl rfl
theorem zy_1814 : code.data.toList[1814]? = some 4 := zt_28 22 1814 4 rfl rfl
theorem zy_1815 : code.data.toList[1815]? = some 4 := zt_28 23 1815 4 rfl rfl
theorem zy_1816 : code.data.toList[1816]? = some 96 := zt_28 24 1816 96 rfl rfl
theorem zy_1817 : code.data.toList[1817]? = some 46 := zt_28 25 1817 46 rfl rfl
theorem zy_1818 : code.data.toList[1818]? = some 182 := zt_28 26 1818 182 rfl rfl
theorem zy_1819 : code.data.toList[1819]? = some 0 := zt_28 27 1819 0 rfl rfl
theorem zy_1820 : code.data.toList[1820]? = some 225 := zt_28 28 1820 225 rfl rfl
theorem zy_1821 : code.data.toList[1821]? = some 87 := zt_28 29 1821 87 rfl rfl
theorem zy_1831 : code.data.toList[1831]? = some 4 := zt_28 39 1831 4 rfl rfl
