/-! DECODINGS: what stands at a place of the code, by its bytes -/
section DEC
def dq_w1 (c : ByteArray) (p : Nat) : Nat := match c.data.toList.drop p with
  | a :: _ => a.toNat
  | _ => 999999999
def dq_w2 (c : ByteArray) (p : Nat) : Nat := match c.data.toList.drop p with
  | a :: b :: _ => a.toNat * 256 + b.toNat
  | _ => 999999999
def dq_w3 (c : ByteArray) (p : Nat) : Nat := match c.data.toList.drop p with
  | a :: b :: d :: _ => a.toNat * 65536 + (b.toNat * 256 + d.toNat)
  | _ => 999999999
theorem dq_u1 {c : ByteArray} {p : Nat} {a : UInt8} {l : List UInt8} (h : c.data.toList.drop p = a :: l) : (Jvm.ClassFile.Reader.u1 : Jvm.ClassFile.Decoder Nat) c p = .ok (a.toNat, p + 1) := by
  have e : c.data.toList[p]? = some a := by
    have q := congrArg (fun l => l[0]?) h
    simp only [List.getElem?_drop] at q
    exact q
  have e2 : c.data[p]? = some a := by rw [← Array.getElem?_toList]; exact e
  obtain ⟨hp, e3⟩ := Array.getElem?_eq_some_iff.mp e2
  have hs : p < c.size := hp
  show (dite (p < c.size) (fun h => ((set (p + 1) >>= fun _ => pure (c[p]'h).toNat) : Jvm.ClassFile.Decoder Nat)) (fun _ => throw (Jvm.ClassFile.HasTruncated.truncated p))) c p = _
  rw [dif_pos hs]
  show Except.ok ((c.data[p]'hp).toNat, p + 1) = _
  rw [e3]
theorem dq_of {c : ByteArray} {pc n p1 p2 l : Nat} {i : Jvm.ClassFile.Instr} {K : Nat → Jvm.ClassFile.Decoder Jvm.ClassFile.Instr} (hK : Jvm.ClassFile.Decoder.instr pc = Jvm.ClassFile.Reader.u1 >>= K) (h1 : (Jvm.ClassFile.Reader.u1 : Jvm.ClassFile.Decoder Nat) c pc = .ok (n, p1)) (h2 : K n c p1 = .ok (i, p2)) (hl : p2 - pc = l) : decode c pc = .ok (i, l) := by
  have e : (Jvm.ClassFile.Decoder.instr pc) c pc = .ok (i, p2) := by
    rw [hK]
    show Except.bind ((Jvm.ClassFile.Reader.u1 : Jvm.ClassFile.Decoder Nat) c pc) (fun q => K q.1 c q.2) = _
    rw [h1]
    exact h2
  show Except.bind ((Jvm.ClassFile.Decoder.instr pc) c pc) (fun q => Except.ok (q.1, q.2 - pc)) = _
  rw [e, ← hl]
  rfl
theorem dq_s1 {c : ByteArray} {p b p2 : Nat} (h : (Jvm.ClassFile.Reader.u1 : Jvm.ClassFile.Decoder Nat) c p = .ok (b, p2)) : (Jvm.ClassFile.Reader.s1 : Jvm.ClassFile.Decoder Int) c p = .ok (Jvm.ClassFile.Reader.signed 8 b, p2) := by
  show Except.bind ((Jvm.ClassFile.Reader.u1 : Jvm.ClassFile.Decoder Nat) c p) (fun q => Except.ok (Jvm.ClassFile.Reader.signed 8 q.1, q.2)) = _
  rw [h]
  rfl
theorem dq_u2 {c : ByteArray} {p a b p2 p3 : Nat} (h : (Jvm.ClassFile.Reader.u1 : Jvm.ClassFile.Decoder Nat) c p = .ok (a, p2)) (g : (Jvm.ClassFile.Reader.u1 : Jvm.ClassFile.Decoder Nat) c p2 = .ok (b, p3)) : (Jvm.ClassFile.Reader.u2 : Jvm.ClassFile.Decoder Nat) c p = .ok (a * 256 + b, p3) := by
  show Except.bind ((Jvm.ClassFile.Reader.u1 : Jvm.ClassFile.Decoder Nat) c p) (fun q => Except.bind ((Jvm.ClassFile.Reader.u1 : Jvm.ClassFile.Decoder Nat) c q.2) (fun r => Except.ok (q.1 * 256 + r.1, r.2))) = _
  rw [h]
  show Except.bind ((Jvm.ClassFile.Reader.u1 : Jvm.ClassFile.Decoder Nat) c p2) _ = _
  rw [g]
  rfl
theorem dq_s2 {c : ByteArray} {p b p2 : Nat} (h : (Jvm.ClassFile.Reader.u2 : Jvm.ClassFile.Decoder Nat) c p = .ok (b, p2)) : (Jvm.ClassFile.Reader.s2 : Jvm.ClassFile.Decoder Int) c p = .ok (Jvm.ClassFile.Reader.signed 16 b, p2) := by
  show Except.bind ((Jvm.ClassFile.Reader.u2 : Jvm.ClassFile.Decoder Nat) c p) (fun q => Except.ok (Jvm.ClassFile.Reader.signed 16 q.1, q.2)) = _
  rw [h]
  rfl
theorem dq_p {α : Type} {c : ByteArray} {p p2 : Nat} {r : Jvm.ClassFile.Decoder α} {f : α → Jvm.ClassFile.Instr} {v : α} (h : r c p = .ok (v, p2)) : ((r >>= fun x => pure (f x)) : Jvm.ClassFile.Decoder Jvm.ClassFile.Instr) c p = .ok (f v, p2) := by
  show Except.bind (r c p) (fun q => Except.ok (f q.1, q.2)) = _
  rw [h]
  rfl
theorem dq_drop {l : List UInt8} {p : Nat} {a : UInt8} {r : List UInt8} (h : l.drop p = a :: r) : l.drop (p + 1) = r := by
  rw [← List.drop_drop, h]
  rfl
theorem dq_b1 {c : ByteArray} {p n : Nat} (h : dq_w1 c p = n) (hn : n < 256) : (Jvm.ClassFile.Reader.u1 : Jvm.ClassFile.Decoder Nat) c p = .ok (n, p + 1) := by
  unfold dq_w1 at h
  split at h
  · rename_i a l e
    rw [dq_u1 e, h]
  · omega
theorem dq_b2 {c : ByteArray} {p n m : Nat} (h : dq_w2 c p = n * 256 + m) (hn : n < 256) (hm : m < 256) : (Jvm.ClassFile.Reader.u1 : Jvm.ClassFile.Decoder Nat) c p = .ok (n, p + 1) ∧ (Jvm.ClassFile.Reader.u1 : Jvm.ClassFile.Decoder Nat) c (p + 1) = .ok (m, p + 1 + 1) := by
  unfold dq_w2 at h
  split at h
  · rename_i a b l e
    have h1 := a.toNat_lt
    have h2 := b.toNat_lt
    rw [dq_u1 e, dq_u1 (dq_drop e), show a.toNat = n by omega, show b.toNat = m by omega]
    exact ⟨rfl, rfl⟩
  · omega
set_option maxRecDepth 200000 in
theorem dq_b3 {c : ByteArray} {p n m : Nat} (h : dq_w3 c p = n * 65536 + m) (hn : n < 256) (hm : m < 65536) : (Jvm.ClassFile.Reader.u1 : Jvm.ClassFile.Decoder Nat) c p = .ok (n, p + 1) ∧ (Jvm.ClassFile.Reader.u2 : Jvm.ClassFile.Decoder Nat) c (p + 1) = .ok (m, p + 1 + 1 + 1) := by
  unfold dq_w3 at h
  split at h
  · rename_i a b d l e
    have h1 := a.toNat_lt
    have h2 := b.toNat_lt
    have h3 := d.toNat_lt
    have e8 : a.toNat = n := by omega
    have e9 : b.toNat * 256 + d.toNat = m := by omega
    have g := dq_u2 (dq_u1 (dq_drop e)) (dq_u1 (dq_drop (dq_drop e)))
    rw [e9] at g
    have g1 := dq_u1 e
    rw [e8] at g1
    exact ⟨g1, g⟩
  · omega
variable {c : ByteArray} {pc m : Nat} {v : Int}
theorem dq1_aconst_null (h : dq_w1 c pc = 1) : decode c pc = .ok (.aconst_null, 1) := dq_of rfl (dq_b1 h (by decide)) rfl (by omega)
theorem dq1_iconst_m1 (h : dq_w1 c pc = 2) : decode c pc = .ok (.iconst (-1), 1) := dq_of rfl (dq_b1 h (by decide)) rfl (by omega)
theorem dq1_iconst_0 (h : dq_w1 c pc = 3) : decode c pc = .ok (.iconst 0, 1) := dq_of rfl (dq_b1 h (by decide)) rfl (by omega)
theorem dq1_iconst_1 (h : dq_w1 c pc = 4) : decode c pc = .ok (.iconst 1, 1) := dq_of rfl (dq_b1 h (by decide)) rfl (by omega)
theorem dq1_iconst_2 (h : dq_w1 c pc = 5) : decode c pc = .ok (.iconst 2, 1) := dq_of rfl (dq_b1 h (by decide)) rfl (by omega)
theorem dq1_iconst_3 (h : dq_w1 c pc = 6) : decode c pc = .ok (.iconst 3, 1) := dq_of rfl (dq_b1 h (by decide)) rfl (by omega)
theorem dq1_iconst_4 (h : dq_w1 c pc = 7) : decode c pc = .ok (.iconst 4, 1) := dq_of rfl (dq_b1 h (by decide)) rfl (by omega)
theorem dq1_iconst_5 (h : dq_w1 c pc = 8) : decode c pc = .ok (.iconst 5, 1) := dq_of rfl (dq_b1 h (by decide)) rfl (by omega)
theorem dq1_lconst_0 (h : dq_w1 c pc = 9) : decode c pc = .ok (.lconst 0, 1) := dq_of rfl (dq_b1 h (by decide)) rfl (by omega)
theorem dq1_lconst_1 (h : dq_w1 c pc = 10) : decode c pc = .ok (.lconst 1, 1) := dq_of rfl (dq_b1 h (by decide)) rfl (by omega)
theorem dq1_iload_n_0 (h : dq_w1 c pc = 26) : decode c pc = .ok (.iload_n 0, 1) := dq_of rfl (dq_b1 h (by decide)) rfl (by omega)
theorem dq1_iload_n_1 (h : dq_w1 c pc = 27) : decode c pc = .ok (.iload_n 1, 1) := dq_of rfl (dq_b1 h (by decide)) rfl (by omega)
theorem dq1_iload_n_2 (h : dq_w1 c pc = 28) : decode c pc = .ok (.iload_n 2, 1) := dq_of rfl (dq_b1 h (by decide)) rfl (by omega)
theorem dq1_iload_n_3 (h : dq_w1 c pc = 29) : decode c pc = .ok (.iload_n 3, 1) := dq_of rfl (dq_b1 h (by decide)) rfl (by omega)
theorem dq1_lload_n_0 (h : dq_w1 c pc = 30) : decode c pc = .ok (.lload_n 0, 1) := dq_of rfl (dq_b1 h (by decide)) rfl (by omega)
theorem dq1_lload_n_1 (h : dq_w1 c pc = 31) : decode c pc = .ok (.lload_n 1, 1) := dq_of rfl (dq_b1 h (by decide)) rfl (by omega)
theorem dq1_lload_n_3 (h : dq_w1 c pc = 33) : decode c pc = .ok (.lload_n 3, 1) := dq_of rfl (dq_b1 h (by decide)) rfl (by omega)
theorem dq1_aload_n_0 (h : dq_w1 c pc = 42) : decode c pc = .ok (.aload_n 0, 1) := dq_of rfl (dq_b1 h (by decide)) rfl (by omega)
theorem dq1_aload_n_1 (h : dq_w1 c pc = 43) : decode c pc = .ok (.aload_n 1, 1) := dq_of rfl (dq_b1 h (by decide)) rfl (by omega)
theorem dq1_aload_n_2 (h : dq_w1 c pc = 44) : decode c pc = .ok (.aload_n 2, 1) := dq_of rfl (dq_b1 h (by decide)) rfl (by omega)
theorem dq1_aload_n_3 (h : dq_w1 c pc = 45) : decode c pc = .ok (.aload_n 3, 1) := dq_of rfl (dq_b1 h (by decide)) rfl (by omega)
theorem dq1_iaload (h : dq_w1 c pc = 46) : decode c pc = .ok (.iaload, 1) := dq_of rfl (dq_b1 h (by decide)) rfl (by omega)
theorem dq1_laload (h : dq_w1 c pc = 47) : decode c pc = .ok (.laload, 1) := dq_of rfl (dq_b1 h (by decide)) rfl (by omega)
theorem dq1_aaload (h : dq_w1 c pc = 50) : decode c pc = .ok (.aaload, 1) := dq_of rfl (dq_b1 h (by decide)) rfl (by omega)
theorem dq1_baload (h : dq_w1 c pc = 51) : decode c pc = .ok (.baload, 1) := dq_of rfl (dq_b1 h (by decide)) rfl (by omega)
theorem dq1_saload (h : dq_w1 c pc = 53) : decode c pc = .ok (.saload, 1) := dq_of rfl (dq_b1 h (by decide)) rfl (by omega)
theorem dq1_istore_n_0 (h : dq_w1 c pc = 59) : decode c pc = .ok (.istore_n 0, 1) := dq_of rfl (dq_b1 h (by decide)) rfl (by omega)
theorem dq1_istore_n_1 (h : dq_w1 c pc = 60) : decode c pc = .ok (.istore_n 1, 1) := dq_of rfl (dq_b1 h (by decide)) rfl (by omega)
theorem dq1_istore_n_2 (h : dq_w1 c pc = 61) : decode c pc = .ok (.istore_n 2, 1) := dq_of rfl (dq_b1 h (by decide)) rfl (by omega)
theorem dq1_istore_n_3 (h : dq_w1 c pc = 62) : decode c pc = .ok (.istore_n 3, 1) := dq_of rfl (dq_b1 h (by decide)) rfl (by omega)
theorem dq1_lstore_n_0 (h : dq_w1 c pc = 63) : decode c pc = .ok (.lstore_n 0, 1) := dq_of rfl (dq_b1 h (by decide)) rfl (by omega)
theorem dq1_lstore_n_3 (h : dq_w1 c pc = 66) : decode c pc = .ok (.lstore_n 3, 1) := dq_of rfl (dq_b1 h (by decide)) rfl (by omega)
theorem dq1_astore_n_1 (h : dq_w1 c pc = 76) : decode c pc = .ok (.astore_n 1, 1) := dq_of rfl (dq_b1 h (by decide)) rfl (by omega)
theorem dq1_astore_n_2 (h : dq_w1 c pc = 77) : decode c pc = .ok (.astore_n 2, 1) := dq_of rfl (dq_b1 h (by decide)) rfl (by omega)
theorem dq1_astore_n_3 (h : dq_w1 c pc = 78) : decode c pc = .ok (.astore_n 3, 1) := dq_of rfl (dq_b1 h (by decide)) rfl (by omega)
theorem dq1_iastore (h : dq_w1 c pc = 79) : decode c pc = .ok (.iastore, 1) := dq_of rfl (dq_b1 h (by decide)) rfl (by omega)
theorem dq1_lastore (h : dq_w1 c pc = 80) : decode c pc = .ok (.lastore, 1) := dq_of rfl (dq_b1 h (by decide)) rfl (by omega)
theorem dq1_aastore (h : dq_w1 c pc = 83) : decode c pc = .ok (.aastore, 1) := dq_of rfl (dq_b1 h (by decide)) rfl (by omega)
theorem dq1_bastore (h : dq_w1 c pc = 84) : decode c pc = .ok (.bastore, 1) := dq_of rfl (dq_b1 h (by decide)) rfl (by omega)
theorem dq1_sastore (h : dq_w1 c pc = 86) : decode c pc = .ok (.sastore, 1) := dq_of rfl (dq_b1 h (by decide)) rfl (by omega)
theorem dq1_pop (h : dq_w1 c pc = 87) : decode c pc = .ok (.pop, 1) := dq_of rfl (dq_b1 h (by decide)) rfl (by omega)
theorem dq1_pop2 (h : dq_w1 c pc = 88) : decode c pc = .ok (.pop2, 1) := dq_of rfl (dq_b1 h (by decide)) rfl (by omega)
theorem dq1_dup (h : dq_w1 c pc = 89) : decode c pc = .ok (.dup, 1) := dq_of rfl (dq_b1 h (by decide)) rfl (by omega)
theorem dq1_dup2 (h : dq_w1 c pc = 92) : decode c pc = .ok (.dup2, 1) := dq_of rfl (dq_b1 h (by decide)) rfl (by omega)
theorem dq1_iadd (h : dq_w1 c pc = 96) : decode c pc = .ok (.iadd, 1) := dq_of rfl (dq_b1 h (by decide)) rfl (by omega)
theorem dq1_ladd (h : dq_w1 c pc = 97) : decode c pc = .ok (.ladd, 1) := dq_of rfl (dq_b1 h (by decide)) rfl (by omega)
theorem dq1_isub (h : dq_w1 c pc = 100) : decode c pc = .ok (.isub, 1) := dq_of rfl (dq_b1 h (by decide)) rfl (by omega)
theorem dq1_lsub (h : dq_w1 c pc = 101) : decode c pc = .ok (.lsub, 1) := dq_of rfl (dq_b1 h (by decide)) rfl (by omega)
theorem dq1_imul (h : dq_w1 c pc = 104) : decode c pc = .ok (.imul, 1) := dq_of rfl (dq_b1 h (by decide)) rfl (by omega)
theorem dq1_idiv (h : dq_w1 c pc = 108) : decode c pc = .ok (.idiv, 1) := dq_of rfl (dq_b1 h (by decide)) rfl (by omega)
theorem dq1_irem (h : dq_w1 c pc = 112) : decode c pc = .ok (.irem, 1) := dq_of rfl (dq_b1 h (by decide)) rfl (by omega)
theorem dq1_ineg (h : dq_w1 c pc = 116) : decode c pc = .ok (.ineg, 1) := dq_of rfl (dq_b1 h (by decide)) rfl (by omega)
theorem dq1_ishl (h : dq_w1 c pc = 120) : decode c pc = .ok (.ishl, 1) := dq_of rfl (dq_b1 h (by decide)) rfl (by omega)
theorem dq1_lshl (h : dq_w1 c pc = 121) : decode c pc = .ok (.lshl, 1) := dq_of rfl (dq_b1 h (by decide)) rfl (by omega)
theorem dq1_ishr (h : dq_w1 c pc = 122) : decode c pc = .ok (.ishr, 1) := dq_of rfl (dq_b1 h (by decide)) rfl (by omega)
theorem dq1_lshr (h : dq_w1 c pc = 123) : decode c pc = .ok (.lshr, 1) := dq_of rfl (dq_b1 h (by decide)) rfl (by omega)
theorem dq1_iushr (h : dq_w1 c pc = 124) : decode c pc = .ok (.iushr, 1) := dq_of rfl (dq_b1 h (by decide)) rfl (by omega)
theorem dq1_lushr (h : dq_w1 c pc = 125) : decode c pc = .ok (.lushr, 1) := dq_of rfl (dq_b1 h (by decide)) rfl (by omega)
theorem dq1_iand (h : dq_w1 c pc = 126) : decode c pc = .ok (.iand, 1) := dq_of rfl (dq_b1 h (by decide)) rfl (by omega)
theorem dq1_land (h : dq_w1 c pc = 127) : decode c pc = .ok (.land, 1) := dq_of rfl (dq_b1 h (by decide)) rfl (by omega)
theorem dq1_ior (h : dq_w1 c pc = 128) : decode c pc = .ok (.ior, 1) := dq_of rfl (dq_b1 h (by decide)) rfl (by omega)
theorem dq1_lor (h : dq_w1 c pc = 129) : decode c pc = .ok (.lor, 1) := dq_of rfl (dq_b1 h (by decide)) rfl (by omega)
theorem dq1_ixor (h : dq_w1 c pc = 130) : decode c pc = .ok (.ixor, 1) := dq_of rfl (dq_b1 h (by decide)) rfl (by omega)
theorem dq1_i2l (h : dq_w1 c pc = 133) : decode c pc = .ok (.i2l, 1) := dq_of rfl (dq_b1 h (by decide)) rfl (by omega)
theorem dq1_l2i (h : dq_w1 c pc = 136) : decode c pc = .ok (.l2i, 1) := dq_of rfl (dq_b1 h (by decide)) rfl (by omega)
theorem dq1_i2b (h : dq_w1 c pc = 145) : decode c pc = .ok (.i2b, 1) := dq_of rfl (dq_b1 h (by decide)) rfl (by omega)
theorem dq1_i2c (h : dq_w1 c pc = 146) : decode c pc = .ok (.i2c, 1) := dq_of rfl (dq_b1 h (by decide)) rfl (by omega)
theorem dq1_i2s (h : dq_w1 c pc = 147) : decode c pc = .ok (.i2s, 1) := dq_of rfl (dq_b1 h (by decide)) rfl (by omega)
theorem dq1_lcmp (h : dq_w1 c pc = 148) : decode c pc = .ok (.lcmp, 1) := dq_of rfl (dq_b1 h (by decide)) rfl (by omega)
theorem dq1_ireturn (h : dq_w1 c pc = 172) : decode c pc = .ok (.ireturn, 1) := dq_of rfl (dq_b1 h (by decide)) rfl (by omega)
theorem dq1_lreturn (h : dq_w1 c pc = 173) : decode c pc = .ok (.lreturn, 1) := dq_of rfl (dq_b1 h (by decide)) rfl (by omega)
theorem dq1_areturn (h : dq_w1 c pc = 176) : decode c pc = .ok (.areturn, 1) := dq_of rfl (dq_b1 h (by decide)) rfl (by omega)
theorem dq1_return (h : dq_w1 c pc = 177) : decode c pc = .ok (.return_, 1) := dq_of rfl (dq_b1 h (by decide)) rfl (by omega)
theorem dq1_arraylength (h : dq_w1 c pc = 190) : decode c pc = .ok (.arraylength, 1) := dq_of rfl (dq_b1 h (by decide)) rfl (by omega)
theorem dq2_aload (h : dq_w2 c pc = 25 * 256 + m) (hm : m < 256) : decode c pc = .ok (.aload m, 2) := dq_of rfl (dq_b2 h (by decide) hm).1 (dq_p (f := fun x => .aload x) (dq_b2 h (by decide) hm).2) (by omega)
theorem dq2_astore (h : dq_w2 c pc = 58 * 256 + m) (hm : m < 256) : decode c pc = .ok (.astore m, 2) := dq_of rfl (dq_b2 h (by decide) hm).1 (dq_p (f := fun x => .astore x) (dq_b2 h (by decide) hm).2) (by omega)
theorem dq2_iload (h : dq_w2 c pc = 21 * 256 + m) (hm : m < 256) : decode c pc = .ok (.iload m, 2) := dq_of rfl (dq_b2 h (by decide) hm).1 (dq_p (f := fun x => .iload x) (dq_b2 h (by decide) hm).2) (by omega)
theorem dq2_istore (h : dq_w2 c pc = 54 * 256 + m) (hm : m < 256) : decode c pc = .ok (.istore m, 2) := dq_of rfl (dq_b2 h (by decide) hm).1 (dq_p (f := fun x => .istore x) (dq_b2 h (by decide) hm).2) (by omega)
theorem dq2_ldc (h : dq_w2 c pc = 18 * 256 + m) (hm : m < 256) : decode c pc = .ok (.ldc m, 2) := dq_of rfl (dq_b2 h (by decide) hm).1 (dq_p (f := fun x => .ldc x) (dq_b2 h (by decide) hm).2) (by omega)
theorem dq2_lload (h : dq_w2 c pc = 22 * 256 + m) (hm : m < 256) : decode c pc = .ok (.lload m, 2) := dq_of rfl (dq_b2 h (by decide) hm).1 (dq_p (f := fun x => .lload x) (dq_b2 h (by decide) hm).2) (by omega)
theorem dq2_lstore (h : dq_w2 c pc = 55 * 256 + m) (hm : m < 256) : decode c pc = .ok (.lstore m, 2) := dq_of rfl (dq_b2 h (by decide) hm).1 (dq_p (f := fun x => .lstore x) (dq_b2 h (by decide) hm).2) (by omega)
theorem dq2_bipush (h : dq_w2 c pc = 16 * 256 + m) (hm : m < 256) (hv : Jvm.ClassFile.Reader.signed 8 m = v) : decode c pc = .ok (.bipush v, 2) := by
  subst hv
  exact dq_of rfl (dq_b2 h (by decide) hm).1 (dq_p (f := fun x => .bipush x) (dq_s1 (dq_b2 h (by decide) hm).2)) (by omega)
theorem dq3_anewarray (h : dq_w3 c pc = 189 * 65536 + m) (hm : m < 65536) : decode c pc = .ok (.anewarray m, 3) := dq_of rfl (dq_b3 h (by decide) hm).1 (dq_p (f := fun x => .anewarray x) (dq_b3 h (by decide) hm).2) (by omega)
theorem dq3_getfield (h : dq_w3 c pc = 180 * 65536 + m) (hm : m < 65536) : decode c pc = .ok (.getfield m, 3) := dq_of rfl (dq_b3 h (by decide) hm).1 (dq_p (f := fun x => .getfield x) (dq_b3 h (by decide) hm).2) (by omega)
theorem dq3_getstatic (h : dq_w3 c pc = 178 * 65536 + m) (hm : m < 65536) : decode c pc = .ok (.getstatic m, 3) := dq_of rfl (dq_b3 h (by decide) hm).1 (dq_p (f := fun x => .getstatic x) (dq_b3 h (by decide) hm).2) (by omega)
theorem dq3_invokespecial (h : dq_w3 c pc = 183 * 65536 + m) (hm : m < 65536) : decode c pc = .ok (.invokespecial m, 3) := dq_of rfl (dq_b3 h (by decide) hm).1 (dq_p (f := fun x => .invokespecial x) (dq_b3 h (by decide) hm).2) (by omega)
theorem dq3_invokestatic (h : dq_w3 c pc = 184 * 65536 + m) (hm : m < 65536) : decode c pc = .ok (.invokestatic m, 3) := dq_of rfl (dq_b3 h (by decide) hm).1 (dq_p (f := fun x => .invokestatic x) (dq_b3 h (by decide) hm).2) (by omega)
theorem dq3_invokevirtual (h : dq_w3 c pc = 182 * 65536 + m) (hm : m < 65536) : decode c pc = .ok (.invokevirtual m, 3) := dq_of rfl (dq_b3 h (by decide) hm).1 (dq_p (f := fun x => .invokevirtual x) (dq_b3 h (by decide) hm).2) (by omega)
theorem dq3_ldc2_w (h : dq_w3 c pc = 20 * 65536 + m) (hm : m < 65536) : decode c pc = .ok (.ldc2_w m, 3) := dq_of rfl (dq_b3 h (by decide) hm).1 (dq_p (f := fun x => .ldc2_w x) (dq_b3 h (by decide) hm).2) (by omega)
theorem dq3_ldc_w (h : dq_w3 c pc = 19 * 65536 + m) (hm : m < 65536) : decode c pc = .ok (.ldc_w m, 3) := dq_of rfl (dq_b3 h (by decide) hm).1 (dq_p (f := fun x => .ldc_w x) (dq_b3 h (by decide) hm).2) (by omega)
theorem dq3_new (h : dq_w3 c pc = 187 * 65536 + m) (hm : m < 65536) : decode c pc = .ok (.new m, 3) := dq_of rfl (dq_b3 h (by decide) hm).1 (dq_p (f := fun x => .new x) (dq_b3 h (by decide) hm).2) (by omega)
theorem dq3_putfield (h : dq_w3 c pc = 181 * 65536 + m) (hm : m < 65536) : decode c pc = .ok (.putfield m, 3) := dq_of rfl (dq_b3 h (by decide) hm).1 (dq_p (f := fun x => .putfield x) (dq_b3 h (by decide) hm).2) (by omega)
theorem dq3_goto (h : dq_w3 c pc = 167 * 65536 + m) (hm : m < 65536) (hv : Jvm.ClassFile.Reader.signed 16 m = v) : decode c pc = .ok (.goto v, 3) := by
  subst hv
  exact dq_of rfl (dq_b3 h (by decide) hm).1 (dq_p (f := fun x => .goto x) (dq_s2 (dq_b3 h (by decide) hm).2)) (by omega)
theorem dq3_ifCond_eq (h : dq_w3 c pc = 153 * 65536 + m) (hm : m < 65536) (hv : Jvm.ClassFile.Reader.signed 16 m = v) : decode c pc = .ok (.ifCond .eq v, 3) := by
  subst hv
  exact dq_of rfl (dq_b3 h (by decide) hm).1 (dq_p (f := fun x => .ifCond .eq x) (dq_s2 (dq_b3 h (by decide) hm).2)) (by omega)
theorem dq3_ifCond_ge (h : dq_w3 c pc = 156 * 65536 + m) (hm : m < 65536) (hv : Jvm.ClassFile.Reader.signed 16 m = v) : decode c pc = .ok (.ifCond .ge v, 3) := by
  subst hv
  exact dq_of rfl (dq_b3 h (by decide) hm).1 (dq_p (f := fun x => .ifCond .ge x) (dq_s2 (dq_b3 h (by decide) hm).2)) (by omega)
theorem dq3_ifCond_gt (h : dq_w3 c pc = 157 * 65536 + m) (hm : m < 65536) (hv : Jvm.ClassFile.Reader.signed 16 m = v) : decode c pc = .ok (.ifCond .gt v, 3) := by
  subst hv
  exact dq_of rfl (dq_b3 h (by decide) hm).1 (dq_p (f := fun x => .ifCond .gt x) (dq_s2 (dq_b3 h (by decide) hm).2)) (by omega)
theorem dq3_ifCond_le (h : dq_w3 c pc = 158 * 65536 + m) (hm : m < 65536) (hv : Jvm.ClassFile.Reader.signed 16 m = v) : decode c pc = .ok (.ifCond .le v, 3) := by
  subst hv
  exact dq_of rfl (dq_b3 h (by decide) hm).1 (dq_p (f := fun x => .ifCond .le x) (dq_s2 (dq_b3 h (by decide) hm).2)) (by omega)
theorem dq3_ifCond_lt (h : dq_w3 c pc = 155 * 65536 + m) (hm : m < 65536) (hv : Jvm.ClassFile.Reader.signed 16 m = v) : decode c pc = .ok (.ifCond .lt v, 3) := by
  subst hv
  exact dq_of rfl (dq_b3 h (by decide) hm).1 (dq_p (f := fun x => .ifCond .lt x) (dq_s2 (dq_b3 h (by decide) hm).2)) (by omega)
theorem dq3_ifCond_ne (h : dq_w3 c pc = 154 * 65536 + m) (hm : m < 65536) (hv : Jvm.ClassFile.Reader.signed 16 m = v) : decode c pc = .ok (.ifCond .ne v, 3) := by
  subst hv
  exact dq_of rfl (dq_b3 h (by decide) hm).1 (dq_p (f := fun x => .ifCond .ne x) (dq_s2 (dq_b3 h (by decide) hm).2)) (by omega)
theorem dq3_if_icmp_eq (h : dq_w3 c pc = 159 * 65536 + m) (hm : m < 65536) (hv : Jvm.ClassFile.Reader.signed 16 m = v) : decode c pc = .ok (.if_icmp .eq v, 3) := by
  subst hv
  exact dq_of rfl (dq_b3 h (by decide) hm).1 (dq_p (f := fun x => .if_icmp .eq x) (dq_s2 (dq_b3 h (by decide) hm).2)) (by omega)
theorem dq3_if_icmp_ge (h : dq_w3 c pc = 162 * 65536 + m) (hm : m < 65536) (hv : Jvm.ClassFile.Reader.signed 16 m = v) : decode c pc = .ok (.if_icmp .ge v, 3) := by
  subst hv
  exact dq_of rfl (dq_b3 h (by decide) hm).1 (dq_p (f := fun x => .if_icmp .ge x) (dq_s2 (dq_b3 h (by decide) hm).2)) (by omega)
theorem dq3_if_icmp_gt (h : dq_w3 c pc = 163 * 65536 + m) (hm : m < 65536) (hv : Jvm.ClassFile.Reader.signed 16 m = v) : decode c pc = .ok (.if_icmp .gt v, 3) := by
  subst hv
  exact dq_of rfl (dq_b3 h (by decide) hm).1 (dq_p (f := fun x => .if_icmp .gt x) (dq_s2 (dq_b3 h (by decide) hm).2)) (by omega)
theorem dq3_if_icmp_le (h : dq_w3 c pc = 164 * 65536 + m) (hm : m < 65536) (hv : Jvm.ClassFile.Reader.signed 16 m = v) : decode c pc = .ok (.if_icmp .le v, 3) := by
  subst hv
  exact dq_of rfl (dq_b3 h (by decide) hm).1 (dq_p (f := fun x => .if_icmp .le x) (dq_s2 (dq_b3 h (by decide) hm).2)) (by omega)
theorem dq3_if_icmp_lt (h : dq_w3 c pc = 161 * 65536 + m) (hm : m < 65536) (hv : Jvm.ClassFile.Reader.signed 16 m = v) : decode c pc = .ok (.if_icmp .lt v, 3) := by
  subst hv
  exact dq_of rfl (dq_b3 h (by decide) hm).1 (dq_p (f := fun x => .if_icmp .lt x) (dq_s2 (dq_b3 h (by decide) hm).2)) (by omega)
theorem dq3_if_icmp_ne (h : dq_w3 c pc = 160 * 65536 + m) (hm : m < 65536) (hv : Jvm.ClassFile.Reader.signed 16 m = v) : decode c pc = .ok (.if_icmp .ne v, 3) := by
  subst hv
  exact dq_of rfl (dq_b3 h (by decide) hm).1 (dq_p (f := fun x => .if_icmp .ne x) (dq_s2 (dq_b3 h (by decide) hm).2)) (by omega)
theorem dq3_ifnonnull (h : dq_w3 c pc = 199 * 65536 + m) (hm : m < 65536) (hv : Jvm.ClassFile.Reader.signed 16 m = v) : decode c pc = .ok (.ifnonnull v, 3) := by
  subst hv
  exact dq_of rfl (dq_b3 h (by decide) hm).1 (dq_p (f := fun x => .ifnonnull x) (dq_s2 (dq_b3 h (by decide) hm).2)) (by omega)
theorem dq3_ifnull (h : dq_w3 c pc = 198 * 65536 + m) (hm : m < 65536) (hv : Jvm.ClassFile.Reader.signed 16 m = v) : decode c pc = .ok (.ifnull v, 3) := by
  subst hv
  exact dq_of rfl (dq_b3 h (by decide) hm).1 (dq_p (f := fun x => .ifnull x) (dq_s2 (dq_b3 h (by decide) hm).2)) (by omega)
theorem dq3_sipush (h : dq_w3 c pc = 17 * 65536 + m) (hm : m < 65536) (hv : Jvm.ClassFile.Reader.signed 16 m = v) : decode c pc = .ok (.sipush v, 3) := by
  subst hv
  exact dq_of rfl (dq_b3 h (by decide) hm).1 (dq_p (f := fun x => .sipush x) (dq_s2 (dq_b3 h (by decide) hm).2)) (by omega)
end DEC
