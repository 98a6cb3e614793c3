/-! decoding by lemmas -/
theorem u1_d {c : ByteArray} {p n : Nat} {b : UInt8} {t : List UInt8} (h : c.data.toList.drop p = b :: t) (e : b.toNat = n) : (ClassFile.Reader.u1 : ClassFile.Decoder Nat) c p = Except.ok (n, p + 1) := by
  have hl : p < c.data.toList.length := by
    by_cases q : p < c.data.toList.length
    · exact q
    · rw [List.drop_eq_nil_of_le (by omega)] at h; exact absurd h (by simp)
  have hg : c.data.toList[p]'hl = b := by
    have z := List.drop_eq_getElem_cons hl
    rw [h] at z
    exact (List.cons.inj z).1.symm
  have hs : p < c.size := hl
  have hb : c[p]'hs = b := hg
  have w : (ClassFile.Reader.u1 : ClassFile.Decoder Nat) c p = (dite (p < c.size) (fun q => (do set (p + 1); pure (c[p]'q).toNat : ClassFile.Decoder Nat)) (fun _ => throw (ClassFile.HasTruncated.truncated p))) c p := rfl
  rw [w, dif_pos hs]
  show Except.ok ((c[p]'hs).toNat, p + 1) = _
  rw [hb, e]
theorem dst {l r s : List UInt8} {a : Nat} (k : Nat) (h : l.drop a = r) (e : r.drop k = s) : l.drop (a + k) = s := by rw [← e, ← h, List.drop_drop]
theorem d1 {l : List UInt8} {p : Nat} {b : UInt8} {t : List UInt8} (h : l.drop p = b :: t) : l.drop (p + 1) = t := by
  have z := congrArg (List.drop 1) h
  rw [List.drop_drop] at z
  exact z
theorem u2_d {c : ByteArray} {p : Nat} {b1 b2 : UInt8} {t : List UInt8} (h : c.data.toList.drop p = b1 :: b2 :: t) : (ClassFile.Reader.u2 : ClassFile.Decoder Nat) c p = Except.ok (b1.toNat * 256 + b2.toNat, p + 1 + 1) := by
  show Except.bind ((ClassFile.Reader.u1 : ClassFile.Decoder Nat) c p) _ = _
  rw [u1_d (n := b1.toNat) h rfl]
  show Except.bind ((ClassFile.Reader.u1 : ClassFile.Decoder Nat) c (p + 1)) _ = _
  rw [u1_d (n := b2.toNat) (d1 h) rfl]
  rfl
theorem s1_d {c : ByteArray} {p : Nat} {b1 : UInt8} {t : List UInt8} (h : c.data.toList.drop p = b1 :: t) : (ClassFile.Reader.s1 : ClassFile.Decoder Int) c p = Except.ok (ClassFile.Reader.signed 8 b1.toNat, p + 1) := by
  show Except.bind ((ClassFile.Reader.u1 : ClassFile.Decoder Nat) c p) _ = _
  rw [u1_d (n := b1.toNat) h rfl]
  rfl
theorem s2_d {c : ByteArray} {p : Nat} {b1 b2 : UInt8} {t : List UInt8} (h : c.data.toList.drop p = b1 :: b2 :: t) : (ClassFile.Reader.s2 : ClassFile.Decoder Int) c p = Except.ok (ClassFile.Reader.signed 16 (b1.toNat * 256 + b2.toNat), p + 1 + 1) := by
  show Except.bind ((ClassFile.Reader.u2 : ClassFile.Decoder Nat) c p) _ = _
  rw [u2_d h]
  rfl
theorem dq_2 {c : ByteArray} {pc : Nat} {t : List UInt8} (h : c.data.toList.drop pc = 2 :: t) : decode c pc = .ok (.iconst (-1), 1) := by
  show Except.bind (Except.bind ((ClassFile.Reader.u1 : ClassFile.Decoder Nat) c pc) _) _ = _
  rw [u1_d (n := 2) h rfl]
  show Except.ok (Instr.iconst (-1), pc + 1 - pc) = _
  rw [Nat.add_sub_cancel_left]
theorem dq_3 {c : ByteArray} {pc : Nat} {t : List UInt8} (h : c.data.toList.drop pc = 3 :: t) : decode c pc = .ok (.iconst 0, 1) := by
  show Except.bind (Except.bind ((ClassFile.Reader.u1 : ClassFile.Decoder Nat) c pc) _) _ = _
  rw [u1_d (n := 3) h rfl]
  show Except.ok (Instr.iconst 0, pc + 1 - pc) = _
  rw [Nat.add_sub_cancel_left]
theorem dq_4 {c : ByteArray} {pc : Nat} {t : List UInt8} (h : c.data.toList.drop pc = 4 :: t) : decode c pc = .ok (.iconst 1, 1) := by
  show Except.bind (Except.bind ((ClassFile.Reader.u1 : ClassFile.Decoder Nat) c pc) _) _ = _
  rw [u1_d (n := 4) h rfl]
  show Except.ok (Instr.iconst 1, pc + 1 - pc) = _
  rw [Nat.add_sub_cancel_left]
theorem dq_5 {c : ByteArray} {pc : Nat} {t : List UInt8} (h : c.data.toList.drop pc = 5 :: t) : decode c pc = .ok (.iconst 2, 1) := by
  show Except.bind (Except.bind ((ClassFile.Reader.u1 : ClassFile.Decoder Nat) c pc) _) _ = _
  rw [u1_d (n := 5) h rfl]
  show Except.ok (Instr.iconst 2, pc + 1 - pc) = _
  rw [Nat.add_sub_cancel_left]
theorem dq_6 {c : ByteArray} {pc : Nat} {t : List UInt8} (h : c.data.toList.drop pc = 6 :: t) : decode c pc = .ok (.iconst 3, 1) := by
  show Except.bind (Except.bind ((ClassFile.Reader.u1 : ClassFile.Decoder Nat) c pc) _) _ = _
  rw [u1_d (n := 6) h rfl]
  show Except.ok (Instr.iconst 3, pc + 1 - pc) = _
  rw [Nat.add_sub_cancel_left]
theorem dq_7 {c : ByteArray} {pc : Nat} {t : List UInt8} (h : c.data.toList.drop pc = 7 :: t) : decode c pc = .ok (.iconst 4, 1) := by
  show Except.bind (Except.bind ((ClassFile.Reader.u1 : ClassFile.Decoder Nat) c pc) _) _ = _
  rw [u1_d (n := 7) h rfl]
  show Except.ok (Instr.iconst 4, pc + 1 - pc) = _
  rw [Nat.add_sub_cancel_left]
theorem dq_8 {c : ByteArray} {pc : Nat} {t : List UInt8} (h : c.data.toList.drop pc = 8 :: t) : decode c pc = .ok (.iconst 5, 1) := by
  show Except.bind (Except.bind ((ClassFile.Reader.u1 : ClassFile.Decoder Nat) c pc) _) _ = _
  rw [u1_d (n := 8) h rfl]
  show Except.ok (Instr.iconst 5, pc + 1 - pc) = _
  rw [Nat.add_sub_cancel_left]
theorem dq_9 {c : ByteArray} {pc : Nat} {t : List UInt8} (h : c.data.toList.drop pc = 9 :: t) : decode c pc = .ok (.lconst 0, 1) := by
  show Except.bind (Except.bind ((ClassFile.Reader.u1 : ClassFile.Decoder Nat) c pc) _) _ = _
  rw [u1_d (n := 9) h rfl]
  show Except.ok (Instr.lconst 0, pc + 1 - pc) = _
  rw [Nat.add_sub_cancel_left]
theorem dq_10 {c : ByteArray} {pc : Nat} {t : List UInt8} (h : c.data.toList.drop pc = 10 :: t) : decode c pc = .ok (.lconst 1, 1) := by
  show Except.bind (Except.bind ((ClassFile.Reader.u1 : ClassFile.Decoder Nat) c pc) _) _ = _
  rw [u1_d (n := 10) h rfl]
  show Except.ok (Instr.lconst 1, pc + 1 - pc) = _
  rw [Nat.add_sub_cancel_left]
theorem dq_16 {c : ByteArray} {pc : Nat} {b1 : UInt8} {t : List UInt8} {v : Int} (h : c.data.toList.drop pc = 16 :: b1 :: t) (e : ClassFile.Reader.signed 8 b1.toNat = v) : decode c pc = .ok (.bipush v, 2) := by
  show Except.bind (Except.bind ((ClassFile.Reader.u1 : ClassFile.Decoder Nat) c pc) _) _ = _
  rw [u1_d (n := 16) h rfl]
  show Except.bind (Except.bind ((ClassFile.Reader.s1 : ClassFile.Decoder Int) c (pc + 1)) _) _ = _
  rw [s1_d (d1 h), e]
  show Except.ok (Instr.bipush v, pc + 1 + 1 - pc) = _
  rw [Nat.add_assoc, Nat.add_sub_cancel_left]
theorem dq_17 {c : ByteArray} {pc : Nat} {b1 b2 : UInt8} {t : List UInt8} {v : Int} (h : c.data.toList.drop pc = 17 :: b1 :: b2 :: t) (e : ClassFile.Reader.signed 16 (b1.toNat * 256 + b2.toNat) = v) : decode c pc = .ok (.sipush v, 3) := by
  show Except.bind (Except.bind ((ClassFile.Reader.u1 : ClassFile.Decoder Nat) c pc) _) _ = _
  rw [u1_d (n := 17) h rfl]
  show Except.bind (Except.bind ((ClassFile.Reader.s2 : ClassFile.Decoder Int) c (pc + 1)) _) _ = _
  rw [s2_d (d1 h), e]
  show Except.ok (Instr.sipush v, pc + 1 + 1 + 1 - pc) = _
  rw [Nat.add_assoc, Nat.add_assoc, Nat.add_sub_cancel_left]
theorem dq_18 {c : ByteArray} {pc : Nat} {b1 : UInt8} {t : List UInt8} {v : Nat} (h : c.data.toList.drop pc = 18 :: b1 :: t) (e : b1.toNat = v) : decode c pc = .ok (.ldc v, 2) := by
  show Except.bind (Except.bind ((ClassFile.Reader.u1 : ClassFile.Decoder Nat) c pc) _) _ = _
  rw [u1_d (n := 18) h rfl]
  show Except.bind (Except.bind ((ClassFile.Reader.u1 : ClassFile.Decoder Nat) c (pc + 1)) _) _ = _
  rw [u1_d (d1 h) e]
  show Except.ok (Instr.ldc v, pc + 1 + 1 - pc) = _
  rw [Nat.add_assoc, Nat.add_sub_cancel_left]
theorem dq_19 {c : ByteArray} {pc : Nat} {b1 b2 : UInt8} {t : List UInt8} {v : Nat} (h : c.data.toList.drop pc = 19 :: b1 :: b2 :: t) (e : b1.toNat * 256 + b2.toNat = v) : decode c pc = .ok (.ldc_w v, 3) := by
  show Except.bind (Except.bind ((ClassFile.Reader.u1 : ClassFile.Decoder Nat) c pc) _) _ = _
  rw [u1_d (n := 19) h rfl]
  show Except.bind (Except.bind ((ClassFile.Reader.u2 : ClassFile.Decoder Nat) c (pc + 1)) _) _ = _
  rw [u2_d (d1 h), e]
  show Except.ok (Instr.ldc_w v, pc + 1 + 1 + 1 - pc) = _
  rw [Nat.add_assoc, Nat.add_assoc, Nat.add_sub_cancel_left]
theorem dq_20 {c : ByteArray} {pc : Nat} {b1 b2 : UInt8} {t : List UInt8} {v : Nat} (h : c.data.toList.drop pc = 20 :: b1 :: b2 :: t) (e : b1.toNat * 256 + b2.toNat = v) : decode c pc = .ok (.ldc2_w v, 3) := by
  show Except.bind (Except.bind ((ClassFile.Reader.u1 : ClassFile.Decoder Nat) c pc) _) _ = _
  rw [u1_d (n := 20) h rfl]
  show Except.bind (Except.bind ((ClassFile.Reader.u2 : ClassFile.Decoder Nat) c (pc + 1)) _) _ = _
  rw [u2_d (d1 h), e]
  show Except.ok (Instr.ldc2_w v, pc + 1 + 1 + 1 - pc) = _
  rw [Nat.add_assoc, Nat.add_assoc, Nat.add_sub_cancel_left]
theorem dq_21 {c : ByteArray} {pc : Nat} {b1 : UInt8} {t : List UInt8} {v : Nat} (h : c.data.toList.drop pc = 21 :: b1 :: t) (e : b1.toNat = v) : decode c pc = .ok (.iload v, 2) := by
  show Except.bind (Except.bind ((ClassFile.Reader.u1 : ClassFile.Decoder Nat) c pc) _) _ = _
  rw [u1_d (n := 21) h rfl]
  show Except.bind (Except.bind ((ClassFile.Reader.u1 : ClassFile.Decoder Nat) c (pc + 1)) _) _ = _
  rw [u1_d (d1 h) e]
  show Except.ok (Instr.iload v, pc + 1 + 1 - pc) = _
  rw [Nat.add_assoc, Nat.add_sub_cancel_left]
theorem dq_22 {c : ByteArray} {pc : Nat} {b1 : UInt8} {t : List UInt8} {v : Nat} (h : c.data.toList.drop pc = 22 :: b1 :: t) (e : b1.toNat = v) : decode c pc = .ok (.lload v, 2) := by
  show Except.bind (Except.bind ((ClassFile.Reader.u1 : ClassFile.Decoder Nat) c pc) _) _ = _
  rw [u1_d (n := 22) h rfl]
  show Except.bind (Except.bind ((ClassFile.Reader.u1 : ClassFile.Decoder Nat) c (pc + 1)) _) _ = _
  rw [u1_d (d1 h) e]
  show Except.ok (Instr.lload v, pc + 1 + 1 - pc) = _
  rw [Nat.add_assoc, Nat.add_sub_cancel_left]
theorem dq_25 {c : ByteArray} {pc : Nat} {b1 : UInt8} {t : List UInt8} {v : Nat} (h : c.data.toList.drop pc = 25 :: b1 :: t) (e : b1.toNat = v) : decode c pc = .ok (.aload v, 2) := by
  show Except.bind (Except.bind ((ClassFile.Reader.u1 : ClassFile.Decoder Nat) c pc) _) _ = _
  rw [u1_d (n := 25) h rfl]
  show Except.bind (Except.bind ((ClassFile.Reader.u1 : ClassFile.Decoder Nat) c (pc + 1)) _) _ = _
  rw [u1_d (d1 h) e]
  show Except.ok (Instr.aload v, pc + 1 + 1 - pc) = _
  rw [Nat.add_assoc, Nat.add_sub_cancel_left]
theorem dq_26 {c : ByteArray} {pc : Nat} {t : List UInt8} (h : c.data.toList.drop pc = 26 :: t) : decode c pc = .ok (.iload_n 0, 1) := by
  show Except.bind (Except.bind ((ClassFile.Reader.u1 : ClassFile.Decoder Nat) c pc) _) _ = _
  rw [u1_d (n := 26) h rfl]
  show Except.ok (Instr.iload_n 0, pc + 1 - pc) = _
  rw [Nat.add_sub_cancel_left]
theorem dq_27 {c : ByteArray} {pc : Nat} {t : List UInt8} (h : c.data.toList.drop pc = 27 :: t) : decode c pc = .ok (.iload_n 1, 1) := by
  show Except.bind (Except.bind ((ClassFile.Reader.u1 : ClassFile.Decoder Nat) c pc) _) _ = _
  rw [u1_d (n := 27) h rfl]
  show Except.ok (Instr.iload_n 1, pc + 1 - pc) = _
  rw [Nat.add_sub_cancel_left]
theorem dq_28 {c : ByteArray} {pc : Nat} {t : List UInt8} (h : c.data.toList.drop pc = 28 :: t) : decode c pc = .ok (.iload_n 2, 1) := by
  show Except.bind (Except.bind ((ClassFile.Reader.u1 : ClassFile.Decoder Nat) c pc) _) _ = _
  rw [u1_d (n := 28) h rfl]
  show Except.ok (Instr.iload_n 2, pc + 1 - pc) = _
  rw [Nat.add_sub_cancel_left]
theorem dq_29 {c : ByteArray} {pc : Nat} {t : List UInt8} (h : c.data.toList.drop pc = 29 :: t) : decode c pc = .ok (.iload_n 3, 1) := by
  show Except.bind (Except.bind ((ClassFile.Reader.u1 : ClassFile.Decoder Nat) c pc) _) _ = _
  rw [u1_d (n := 29) h rfl]
  show Except.ok (Instr.iload_n 3, pc + 1 - pc) = _
  rw [Nat.add_sub_cancel_left]
theorem dq_30 {c : ByteArray} {pc : Nat} {t : List UInt8} (h : c.data.toList.drop pc = 30 :: t) : decode c pc = .ok (.lload_n 0, 1) := by
  show Except.bind (Except.bind ((ClassFile.Reader.u1 : ClassFile.Decoder Nat) c pc) _) _ = _
  rw [u1_d (n := 30) h rfl]
  show Except.ok (Instr.lload_n 0, pc + 1 - pc) = _
  rw [Nat.add_sub_cancel_left]
theorem dq_31 {c : ByteArray} {pc : Nat} {t : List UInt8} (h : c.data.toList.drop pc = 31 :: t) : decode c pc = .ok (.lload_n 1, 1) := by
  show Except.bind (Except.bind ((ClassFile.Reader.u1 : ClassFile.Decoder Nat) c pc) _) _ = _
  rw [u1_d (n := 31) h rfl]
  show Except.ok (Instr.lload_n 1, pc + 1 - pc) = _
  rw [Nat.add_sub_cancel_left]
theorem dq_32 {c : ByteArray} {pc : Nat} {t : List UInt8} (h : c.data.toList.drop pc = 32 :: t) : decode c pc = .ok (.lload_n 2, 1) := by
  show Except.bind (Except.bind ((ClassFile.Reader.u1 : ClassFile.Decoder Nat) c pc) _) _ = _
  rw [u1_d (n := 32) h rfl]
  show Except.ok (Instr.lload_n 2, pc + 1 - pc) = _
  rw [Nat.add_sub_cancel_left]
theorem dq_33 {c : ByteArray} {pc : Nat} {t : List UInt8} (h : c.data.toList.drop pc = 33 :: t) : decode c pc = .ok (.lload_n 3, 1) := by
  show Except.bind (Except.bind ((ClassFile.Reader.u1 : ClassFile.Decoder Nat) c pc) _) _ = _
  rw [u1_d (n := 33) h rfl]
  show Except.ok (Instr.lload_n 3, pc + 1 - pc) = _
  rw [Nat.add_sub_cancel_left]
theorem dq_42 {c : ByteArray} {pc : Nat} {t : List UInt8} (h : c.data.toList.drop pc = 42 :: t) : decode c pc = .ok (.aload_n 0, 1) := by
  show Except.bind (Except.bind ((ClassFile.Reader.u1 : ClassFile.Decoder Nat) c pc) _) _ = _
  rw [u1_d (n := 42) h rfl]
  show Except.ok (Instr.aload_n 0, pc + 1 - pc) = _
  rw [Nat.add_sub_cancel_left]
theorem dq_43 {c : ByteArray} {pc : Nat} {t : List UInt8} (h : c.data.toList.drop pc = 43 :: t) : decode c pc = .ok (.aload_n 1, 1) := by
  show Except.bind (Except.bind ((ClassFile.Reader.u1 : ClassFile.Decoder Nat) c pc) _) _ = _
  rw [u1_d (n := 43) h rfl]
  show Except.ok (Instr.aload_n 1, pc + 1 - pc) = _
  rw [Nat.add_sub_cancel_left]
theorem dq_44 {c : ByteArray} {pc : Nat} {t : List UInt8} (h : c.data.toList.drop pc = 44 :: t) : decode c pc = .ok (.aload_n 2, 1) := by
  show Except.bind (Except.bind ((ClassFile.Reader.u1 : ClassFile.Decoder Nat) c pc) _) _ = _
  rw [u1_d (n := 44) h rfl]
  show Except.ok (Instr.aload_n 2, pc + 1 - pc) = _
  rw [Nat.add_sub_cancel_left]
theorem dq_45 {c : ByteArray} {pc : Nat} {t : List UInt8} (h : c.data.toList.drop pc = 45 :: t) : decode c pc = .ok (.aload_n 3, 1) := by
  show Except.bind (Except.bind ((ClassFile.Reader.u1 : ClassFile.Decoder Nat) c pc) _) _ = _
  rw [u1_d (n := 45) h rfl]
  show Except.ok (Instr.aload_n 3, pc + 1 - pc) = _
  rw [Nat.add_sub_cancel_left]
theorem dq_46 {c : ByteArray} {pc : Nat} {t : List UInt8} (h : c.data.toList.drop pc = 46 :: t) : decode c pc = .ok (.iaload, 1) := by
  show Except.bind (Except.bind ((ClassFile.Reader.u1 : ClassFile.Decoder Nat) c pc) _) _ = _
  rw [u1_d (n := 46) h rfl]
  show Except.ok (Instr.iaload, pc + 1 - pc) = _
  rw [Nat.add_sub_cancel_left]
theorem dq_47 {c : ByteArray} {pc : Nat} {t : List UInt8} (h : c.data.toList.drop pc = 47 :: t) : decode c pc = .ok (.laload, 1) := by
  show Except.bind (Except.bind ((ClassFile.Reader.u1 : ClassFile.Decoder Nat) c pc) _) _ = _
  rw [u1_d (n := 47) h rfl]
  show Except.ok (Instr.laload, pc + 1 - pc) = _
  rw [Nat.add_sub_cancel_left]
theorem dq_51 {c : ByteArray} {pc : Nat} {t : List UInt8} (h : c.data.toList.drop pc = 51 :: t) : decode c pc = .ok (.baload, 1) := by
  show Except.bind (Except.bind ((ClassFile.Reader.u1 : ClassFile.Decoder Nat) c pc) _) _ = _
  rw [u1_d (n := 51) h rfl]
  show Except.ok (Instr.baload, pc + 1 - pc) = _
  rw [Nat.add_sub_cancel_left]
theorem dq_54 {c : ByteArray} {pc : Nat} {b1 : UInt8} {t : List UInt8} {v : Nat} (h : c.data.toList.drop pc = 54 :: b1 :: t) (e : b1.toNat = v) : decode c pc = .ok (.istore v, 2) := by
  show Except.bind (Except.bind ((ClassFile.Reader.u1 : ClassFile.Decoder Nat) c pc) _) _ = _
  rw [u1_d (n := 54) h rfl]
  show Except.bind (Except.bind ((ClassFile.Reader.u1 : ClassFile.Decoder Nat) c (pc + 1)) _) _ = _
  rw [u1_d (d1 h) e]
  show Except.ok (Instr.istore v, pc + 1 + 1 - pc) = _
  rw [Nat.add_assoc, Nat.add_sub_cancel_left]
theorem dq_55 {c : ByteArray} {pc : Nat} {b1 : UInt8} {t : List UInt8} {v : Nat} (h : c.data.toList.drop pc = 55 :: b1 :: t) (e : b1.toNat = v) : decode c pc = .ok (.lstore v, 2) := by
  show Except.bind (Except.bind ((ClassFile.Reader.u1 : ClassFile.Decoder Nat) c pc) _) _ = _
  rw [u1_d (n := 55) h rfl]
  show Except.bind (Except.bind ((ClassFile.Reader.u1 : ClassFile.Decoder Nat) c (pc + 1)) _) _ = _
  rw [u1_d (d1 h) e]
  show Except.ok (Instr.lstore v, pc + 1 + 1 - pc) = _
  rw [Nat.add_assoc, Nat.add_sub_cancel_left]
theorem dq_58 {c : ByteArray} {pc : Nat} {b1 : UInt8} {t : List UInt8} {v : Nat} (h : c.data.toList.drop pc = 58 :: b1 :: t) (e : b1.toNat = v) : decode c pc = .ok (.astore v, 2) := by
  show Except.bind (Except.bind ((ClassFile.Reader.u1 : ClassFile.Decoder Nat) c pc) _) _ = _
  rw [u1_d (n := 58) h rfl]
  show Except.bind (Except.bind ((ClassFile.Reader.u1 : ClassFile.Decoder Nat) c (pc + 1)) _) _ = _
  rw [u1_d (d1 h) e]
  show Except.ok (Instr.astore v, pc + 1 + 1 - pc) = _
  rw [Nat.add_assoc, Nat.add_sub_cancel_left]
theorem dq_59 {c : ByteArray} {pc : Nat} {t : List UInt8} (h : c.data.toList.drop pc = 59 :: t) : decode c pc = .ok (.istore_n 0, 1) := by
  show Except.bind (Except.bind ((ClassFile.Reader.u1 : ClassFile.Decoder Nat) c pc) _) _ = _
  rw [u1_d (n := 59) h rfl]
  show Except.ok (Instr.istore_n 0, pc + 1 - pc) = _
  rw [Nat.add_sub_cancel_left]
theorem dq_60 {c : ByteArray} {pc : Nat} {t : List UInt8} (h : c.data.toList.drop pc = 60 :: t) : decode c pc = .ok (.istore_n 1, 1) := by
  show Except.bind (Except.bind ((ClassFile.Reader.u1 : ClassFile.Decoder Nat) c pc) _) _ = _
  rw [u1_d (n := 60) h rfl]
  show Except.ok (Instr.istore_n 1, pc + 1 - pc) = _
  rw [Nat.add_sub_cancel_left]
theorem dq_61 {c : ByteArray} {pc : Nat} {t : List UInt8} (h : c.data.toList.drop pc = 61 :: t) : decode c pc = .ok (.istore_n 2, 1) := by
  show Except.bind (Except.bind ((ClassFile.Reader.u1 : ClassFile.Decoder Nat) c pc) _) _ = _
  rw [u1_d (n := 61) h rfl]
  show Except.ok (Instr.istore_n 2, pc + 1 - pc) = _
  rw [Nat.add_sub_cancel_left]
theorem dq_62 {c : ByteArray} {pc : Nat} {t : List UInt8} (h : c.data.toList.drop pc = 62 :: t) : decode c pc = .ok (.istore_n 3, 1) := by
  show Except.bind (Except.bind ((ClassFile.Reader.u1 : ClassFile.Decoder Nat) c pc) _) _ = _
  rw [u1_d (n := 62) h rfl]
  show Except.ok (Instr.istore_n 3, pc + 1 - pc) = _
  rw [Nat.add_sub_cancel_left]
theorem dq_64 {c : ByteArray} {pc : Nat} {t : List UInt8} (h : c.data.toList.drop pc = 64 :: t) : decode c pc = .ok (.lstore_n 1, 1) := by
  show Except.bind (Except.bind ((ClassFile.Reader.u1 : ClassFile.Decoder Nat) c pc) _) _ = _
  rw [u1_d (n := 64) h rfl]
  show Except.ok (Instr.lstore_n 1, pc + 1 - pc) = _
  rw [Nat.add_sub_cancel_left]
theorem dq_65 {c : ByteArray} {pc : Nat} {t : List UInt8} (h : c.data.toList.drop pc = 65 :: t) : decode c pc = .ok (.lstore_n 2, 1) := by
  show Except.bind (Except.bind ((ClassFile.Reader.u1 : ClassFile.Decoder Nat) c pc) _) _ = _
  rw [u1_d (n := 65) h rfl]
  show Except.ok (Instr.lstore_n 2, pc + 1 - pc) = _
  rw [Nat.add_sub_cancel_left]
theorem dq_66 {c : ByteArray} {pc : Nat} {t : List UInt8} (h : c.data.toList.drop pc = 66 :: t) : decode c pc = .ok (.lstore_n 3, 1) := by
  show Except.bind (Except.bind ((ClassFile.Reader.u1 : ClassFile.Decoder Nat) c pc) _) _ = _
  rw [u1_d (n := 66) h rfl]
  show Except.ok (Instr.lstore_n 3, pc + 1 - pc) = _
  rw [Nat.add_sub_cancel_left]
theorem dq_76 {c : ByteArray} {pc : Nat} {t : List UInt8} (h : c.data.toList.drop pc = 76 :: t) : decode c pc = .ok (.astore_n 1, 1) := by
  show Except.bind (Except.bind ((ClassFile.Reader.u1 : ClassFile.Decoder Nat) c pc) _) _ = _
  rw [u1_d (n := 76) h rfl]
  show Except.ok (Instr.astore_n 1, pc + 1 - pc) = _
  rw [Nat.add_sub_cancel_left]
theorem dq_77 {c : ByteArray} {pc : Nat} {t : List UInt8} (h : c.data.toList.drop pc = 77 :: t) : decode c pc = .ok (.astore_n 2, 1) := by
  show Except.bind (Except.bind ((ClassFile.Reader.u1 : ClassFile.Decoder Nat) c pc) _) _ = _
  rw [u1_d (n := 77) h rfl]
  show Except.ok (Instr.astore_n 2, pc + 1 - pc) = _
  rw [Nat.add_sub_cancel_left]
theorem dq_78 {c : ByteArray} {pc : Nat} {t : List UInt8} (h : c.data.toList.drop pc = 78 :: t) : decode c pc = .ok (.astore_n 3, 1) := by
  show Except.bind (Except.bind ((ClassFile.Reader.u1 : ClassFile.Decoder Nat) c pc) _) _ = _
  rw [u1_d (n := 78) h rfl]
  show Except.ok (Instr.astore_n 3, pc + 1 - pc) = _
  rw [Nat.add_sub_cancel_left]
theorem dq_79 {c : ByteArray} {pc : Nat} {t : List UInt8} (h : c.data.toList.drop pc = 79 :: t) : decode c pc = .ok (.iastore, 1) := by
  show Except.bind (Except.bind ((ClassFile.Reader.u1 : ClassFile.Decoder Nat) c pc) _) _ = _
  rw [u1_d (n := 79) h rfl]
  show Except.ok (Instr.iastore, pc + 1 - pc) = _
  rw [Nat.add_sub_cancel_left]
theorem dq_80 {c : ByteArray} {pc : Nat} {t : List UInt8} (h : c.data.toList.drop pc = 80 :: t) : decode c pc = .ok (.lastore, 1) := by
  show Except.bind (Except.bind ((ClassFile.Reader.u1 : ClassFile.Decoder Nat) c pc) _) _ = _
  rw [u1_d (n := 80) h rfl]
  show Except.ok (Instr.lastore, pc + 1 - pc) = _
  rw [Nat.add_sub_cancel_left]
theorem dq_84 {c : ByteArray} {pc : Nat} {t : List UInt8} (h : c.data.toList.drop pc = 84 :: t) : decode c pc = .ok (.bastore, 1) := by
  show Except.bind (Except.bind ((ClassFile.Reader.u1 : ClassFile.Decoder Nat) c pc) _) _ = _
  rw [u1_d (n := 84) h rfl]
  show Except.ok (Instr.bastore, pc + 1 - pc) = _
  rw [Nat.add_sub_cancel_left]
theorem dq_87 {c : ByteArray} {pc : Nat} {t : List UInt8} (h : c.data.toList.drop pc = 87 :: t) : decode c pc = .ok (.pop, 1) := by
  show Except.bind (Except.bind ((ClassFile.Reader.u1 : ClassFile.Decoder Nat) c pc) _) _ = _
  rw [u1_d (n := 87) h rfl]
  show Except.ok (Instr.pop, pc + 1 - pc) = _
  rw [Nat.add_sub_cancel_left]
theorem dq_88 {c : ByteArray} {pc : Nat} {t : List UInt8} (h : c.data.toList.drop pc = 88 :: t) : decode c pc = .ok (.pop2, 1) := by
  show Except.bind (Except.bind ((ClassFile.Reader.u1 : ClassFile.Decoder Nat) c pc) _) _ = _
  rw [u1_d (n := 88) h rfl]
  show Except.ok (Instr.pop2, pc + 1 - pc) = _
  rw [Nat.add_sub_cancel_left]
theorem dq_89 {c : ByteArray} {pc : Nat} {t : List UInt8} (h : c.data.toList.drop pc = 89 :: t) : decode c pc = .ok (.dup, 1) := by
  show Except.bind (Except.bind ((ClassFile.Reader.u1 : ClassFile.Decoder Nat) c pc) _) _ = _
  rw [u1_d (n := 89) h rfl]
  show Except.ok (Instr.dup, pc + 1 - pc) = _
  rw [Nat.add_sub_cancel_left]
theorem dq_92 {c : ByteArray} {pc : Nat} {t : List UInt8} (h : c.data.toList.drop pc = 92 :: t) : decode c pc = .ok (.dup2, 1) := by
  show Except.bind (Except.bind ((ClassFile.Reader.u1 : ClassFile.Decoder Nat) c pc) _) _ = _
  rw [u1_d (n := 92) h rfl]
  show Except.ok (Instr.dup2, pc + 1 - pc) = _
  rw [Nat.add_sub_cancel_left]
theorem dq_96 {c : ByteArray} {pc : Nat} {t : List UInt8} (h : c.data.toList.drop pc = 96 :: t) : decode c pc = .ok (.iadd, 1) := by
  show Except.bind (Except.bind ((ClassFile.Reader.u1 : ClassFile.Decoder Nat) c pc) _) _ = _
  rw [u1_d (n := 96) h rfl]
  show Except.ok (Instr.iadd, pc + 1 - pc) = _
  rw [Nat.add_sub_cancel_left]
theorem dq_97 {c : ByteArray} {pc : Nat} {t : List UInt8} (h : c.data.toList.drop pc = 97 :: t) : decode c pc = .ok (.ladd, 1) := by
  show Except.bind (Except.bind ((ClassFile.Reader.u1 : ClassFile.Decoder Nat) c pc) _) _ = _
  rw [u1_d (n := 97) h rfl]
  show Except.ok (Instr.ladd, pc + 1 - pc) = _
  rw [Nat.add_sub_cancel_left]
theorem dq_100 {c : ByteArray} {pc : Nat} {t : List UInt8} (h : c.data.toList.drop pc = 100 :: t) : decode c pc = .ok (.isub, 1) := by
  show Except.bind (Except.bind ((ClassFile.Reader.u1 : ClassFile.Decoder Nat) c pc) _) _ = _
  rw [u1_d (n := 100) h rfl]
  show Except.ok (Instr.isub, pc + 1 - pc) = _
  rw [Nat.add_sub_cancel_left]
theorem dq_104 {c : ByteArray} {pc : Nat} {t : List UInt8} (h : c.data.toList.drop pc = 104 :: t) : decode c pc = .ok (.imul, 1) := by
  show Except.bind (Except.bind ((ClassFile.Reader.u1 : ClassFile.Decoder Nat) c pc) _) _ = _
  rw [u1_d (n := 104) h rfl]
  show Except.ok (Instr.imul, pc + 1 - pc) = _
  rw [Nat.add_sub_cancel_left]
theorem dq_105 {c : ByteArray} {pc : Nat} {t : List UInt8} (h : c.data.toList.drop pc = 105 :: t) : decode c pc = .ok (.lmul, 1) := by
  show Except.bind (Except.bind ((ClassFile.Reader.u1 : ClassFile.Decoder Nat) c pc) _) _ = _
  rw [u1_d (n := 105) h rfl]
  show Except.ok (Instr.lmul, pc + 1 - pc) = _
  rw [Nat.add_sub_cancel_left]
theorem dq_108 {c : ByteArray} {pc : Nat} {t : List UInt8} (h : c.data.toList.drop pc = 108 :: t) : decode c pc = .ok (.idiv, 1) := by
  show Except.bind (Except.bind ((ClassFile.Reader.u1 : ClassFile.Decoder Nat) c pc) _) _ = _
  rw [u1_d (n := 108) h rfl]
  show Except.ok (Instr.idiv, pc + 1 - pc) = _
  rw [Nat.add_sub_cancel_left]
theorem dq_109 {c : ByteArray} {pc : Nat} {t : List UInt8} (h : c.data.toList.drop pc = 109 :: t) : decode c pc = .ok (.ldiv, 1) := by
  show Except.bind (Except.bind ((ClassFile.Reader.u1 : ClassFile.Decoder Nat) c pc) _) _ = _
  rw [u1_d (n := 109) h rfl]
  show Except.ok (Instr.ldiv, pc + 1 - pc) = _
  rw [Nat.add_sub_cancel_left]
theorem dq_112 {c : ByteArray} {pc : Nat} {t : List UInt8} (h : c.data.toList.drop pc = 112 :: t) : decode c pc = .ok (.irem, 1) := by
  show Except.bind (Except.bind ((ClassFile.Reader.u1 : ClassFile.Decoder Nat) c pc) _) _ = _
  rw [u1_d (n := 112) h rfl]
  show Except.ok (Instr.irem, pc + 1 - pc) = _
  rw [Nat.add_sub_cancel_left]
theorem dq_113 {c : ByteArray} {pc : Nat} {t : List UInt8} (h : c.data.toList.drop pc = 113 :: t) : decode c pc = .ok (.lrem, 1) := by
  show Except.bind (Except.bind ((ClassFile.Reader.u1 : ClassFile.Decoder Nat) c pc) _) _ = _
  rw [u1_d (n := 113) h rfl]
  show Except.ok (Instr.lrem, pc + 1 - pc) = _
  rw [Nat.add_sub_cancel_left]
theorem dq_116 {c : ByteArray} {pc : Nat} {t : List UInt8} (h : c.data.toList.drop pc = 116 :: t) : decode c pc = .ok (.ineg, 1) := by
  show Except.bind (Except.bind ((ClassFile.Reader.u1 : ClassFile.Decoder Nat) c pc) _) _ = _
  rw [u1_d (n := 116) h rfl]
  show Except.ok (Instr.ineg, pc + 1 - pc) = _
  rw [Nat.add_sub_cancel_left]
theorem dq_120 {c : ByteArray} {pc : Nat} {t : List UInt8} (h : c.data.toList.drop pc = 120 :: t) : decode c pc = .ok (.ishl, 1) := by
  show Except.bind (Except.bind ((ClassFile.Reader.u1 : ClassFile.Decoder Nat) c pc) _) _ = _
  rw [u1_d (n := 120) h rfl]
  show Except.ok (Instr.ishl, pc + 1 - pc) = _
  rw [Nat.add_sub_cancel_left]
theorem dq_121 {c : ByteArray} {pc : Nat} {t : List UInt8} (h : c.data.toList.drop pc = 121 :: t) : decode c pc = .ok (.lshl, 1) := by
  show Except.bind (Except.bind ((ClassFile.Reader.u1 : ClassFile.Decoder Nat) c pc) _) _ = _
  rw [u1_d (n := 121) h rfl]
  show Except.ok (Instr.lshl, pc + 1 - pc) = _
  rw [Nat.add_sub_cancel_left]
theorem dq_122 {c : ByteArray} {pc : Nat} {t : List UInt8} (h : c.data.toList.drop pc = 122 :: t) : decode c pc = .ok (.ishr, 1) := by
  show Except.bind (Except.bind ((ClassFile.Reader.u1 : ClassFile.Decoder Nat) c pc) _) _ = _
  rw [u1_d (n := 122) h rfl]
  show Except.ok (Instr.ishr, pc + 1 - pc) = _
  rw [Nat.add_sub_cancel_left]
theorem dq_123 {c : ByteArray} {pc : Nat} {t : List UInt8} (h : c.data.toList.drop pc = 123 :: t) : decode c pc = .ok (.lshr, 1) := by
  show Except.bind (Except.bind ((ClassFile.Reader.u1 : ClassFile.Decoder Nat) c pc) _) _ = _
  rw [u1_d (n := 123) h rfl]
  show Except.ok (Instr.lshr, pc + 1 - pc) = _
  rw [Nat.add_sub_cancel_left]
theorem dq_124 {c : ByteArray} {pc : Nat} {t : List UInt8} (h : c.data.toList.drop pc = 124 :: t) : decode c pc = .ok (.iushr, 1) := by
  show Except.bind (Except.bind ((ClassFile.Reader.u1 : ClassFile.Decoder Nat) c pc) _) _ = _
  rw [u1_d (n := 124) h rfl]
  show Except.ok (Instr.iushr, pc + 1 - pc) = _
  rw [Nat.add_sub_cancel_left]
theorem dq_125 {c : ByteArray} {pc : Nat} {t : List UInt8} (h : c.data.toList.drop pc = 125 :: t) : decode c pc = .ok (.lushr, 1) := by
  show Except.bind (Except.bind ((ClassFile.Reader.u1 : ClassFile.Decoder Nat) c pc) _) _ = _
  rw [u1_d (n := 125) h rfl]
  show Except.ok (Instr.lushr, pc + 1 - pc) = _
  rw [Nat.add_sub_cancel_left]
theorem dq_126 {c : ByteArray} {pc : Nat} {t : List UInt8} (h : c.data.toList.drop pc = 126 :: t) : decode c pc = .ok (.iand, 1) := by
  show Except.bind (Except.bind ((ClassFile.Reader.u1 : ClassFile.Decoder Nat) c pc) _) _ = _
  rw [u1_d (n := 126) h rfl]
  show Except.ok (Instr.iand, pc + 1 - pc) = _
  rw [Nat.add_sub_cancel_left]
theorem dq_127 {c : ByteArray} {pc : Nat} {t : List UInt8} (h : c.data.toList.drop pc = 127 :: t) : decode c pc = .ok (.land, 1) := by
  show Except.bind (Except.bind ((ClassFile.Reader.u1 : ClassFile.Decoder Nat) c pc) _) _ = _
  rw [u1_d (n := 127) h rfl]
  show Except.ok (Instr.land, pc + 1 - pc) = _
  rw [Nat.add_sub_cancel_left]
theorem dq_128 {c : ByteArray} {pc : Nat} {t : List UInt8} (h : c.data.toList.drop pc = 128 :: t) : decode c pc = .ok (.ior, 1) := by
  show Except.bind (Except.bind ((ClassFile.Reader.u1 : ClassFile.Decoder Nat) c pc) _) _ = _
  rw [u1_d (n := 128) h rfl]
  show Except.ok (Instr.ior, pc + 1 - pc) = _
  rw [Nat.add_sub_cancel_left]
theorem dq_129 {c : ByteArray} {pc : Nat} {t : List UInt8} (h : c.data.toList.drop pc = 129 :: t) : decode c pc = .ok (.lor, 1) := by
  show Except.bind (Except.bind ((ClassFile.Reader.u1 : ClassFile.Decoder Nat) c pc) _) _ = _
  rw [u1_d (n := 129) h rfl]
  show Except.ok (Instr.lor, pc + 1 - pc) = _
  rw [Nat.add_sub_cancel_left]
theorem dq_130 {c : ByteArray} {pc : Nat} {t : List UInt8} (h : c.data.toList.drop pc = 130 :: t) : decode c pc = .ok (.ixor, 1) := by
  show Except.bind (Except.bind ((ClassFile.Reader.u1 : ClassFile.Decoder Nat) c pc) _) _ = _
  rw [u1_d (n := 130) h rfl]
  show Except.ok (Instr.ixor, pc + 1 - pc) = _
  rw [Nat.add_sub_cancel_left]
theorem dq_132 {c : ByteArray} {pc : Nat} {b1 b2 : UInt8} {t : List UInt8} {v : Nat} {w : Int} (h : c.data.toList.drop pc = 132 :: b1 :: b2 :: t) (e1 : b1.toNat = v) (e2 : ClassFile.Reader.signed 8 b2.toNat = w) : decode c pc = .ok (.iinc v w, 3) := by
  show Except.bind (Except.bind ((ClassFile.Reader.u1 : ClassFile.Decoder Nat) c pc) _) _ = _
  rw [u1_d (n := 132) h rfl]
  show Except.bind (Except.bind ((ClassFile.Reader.u1 : ClassFile.Decoder Nat) c (pc + 1)) _) _ = _
  rw [u1_d (d1 h) e1]
  show Except.bind (Except.bind ((ClassFile.Reader.s1 : ClassFile.Decoder Int) c (pc + 1 + 1)) _) _ = _
  rw [s1_d (d1 (d1 h)), e2]
  show Except.ok (Instr.iinc v w, pc + 1 + 1 + 1 - pc) = _
  rw [Nat.add_assoc, Nat.add_assoc, Nat.add_sub_cancel_left]
theorem dq_133 {c : ByteArray} {pc : Nat} {t : List UInt8} (h : c.data.toList.drop pc = 133 :: t) : decode c pc = .ok (.i2l, 1) := by
  show Except.bind (Except.bind ((ClassFile.Reader.u1 : ClassFile.Decoder Nat) c pc) _) _ = _
  rw [u1_d (n := 133) h rfl]
  show Except.ok (Instr.i2l, pc + 1 - pc) = _
  rw [Nat.add_sub_cancel_left]
theorem dq_136 {c : ByteArray} {pc : Nat} {t : List UInt8} (h : c.data.toList.drop pc = 136 :: t) : decode c pc = .ok (.l2i, 1) := by
  show Except.bind (Except.bind ((ClassFile.Reader.u1 : ClassFile.Decoder Nat) c pc) _) _ = _
  rw [u1_d (n := 136) h rfl]
  show Except.ok (Instr.l2i, pc + 1 - pc) = _
  rw [Nat.add_sub_cancel_left]
theorem dq_145 {c : ByteArray} {pc : Nat} {t : List UInt8} (h : c.data.toList.drop pc = 145 :: t) : decode c pc = .ok (.i2b, 1) := by
  show Except.bind (Except.bind ((ClassFile.Reader.u1 : ClassFile.Decoder Nat) c pc) _) _ = _
  rw [u1_d (n := 145) h rfl]
  show Except.ok (Instr.i2b, pc + 1 - pc) = _
  rw [Nat.add_sub_cancel_left]
theorem dq_146 {c : ByteArray} {pc : Nat} {t : List UInt8} (h : c.data.toList.drop pc = 146 :: t) : decode c pc = .ok (.i2c, 1) := by
  show Except.bind (Except.bind ((ClassFile.Reader.u1 : ClassFile.Decoder Nat) c pc) _) _ = _
  rw [u1_d (n := 146) h rfl]
  show Except.ok (Instr.i2c, pc + 1 - pc) = _
  rw [Nat.add_sub_cancel_left]
theorem dq_148 {c : ByteArray} {pc : Nat} {t : List UInt8} (h : c.data.toList.drop pc = 148 :: t) : decode c pc = .ok (.lcmp, 1) := by
  show Except.bind (Except.bind ((ClassFile.Reader.u1 : ClassFile.Decoder Nat) c pc) _) _ = _
  rw [u1_d (n := 148) h rfl]
  show Except.ok (Instr.lcmp, pc + 1 - pc) = _
  rw [Nat.add_sub_cancel_left]
theorem dq_153 {c : ByteArray} {pc : Nat} {b1 b2 : UInt8} {t : List UInt8} {v : Int} (h : c.data.toList.drop pc = 153 :: b1 :: b2 :: t) (e : ClassFile.Reader.signed 16 (b1.toNat * 256 + b2.toNat) = v) : decode c pc = .ok (.ifCond .eq v, 3) := by
  show Except.bind (Except.bind ((ClassFile.Reader.u1 : ClassFile.Decoder Nat) c pc) _) _ = _
  rw [u1_d (n := 153) h rfl]
  show Except.bind (Except.bind ((ClassFile.Reader.s2 : ClassFile.Decoder Int) c (pc + 1)) _) _ = _
  rw [s2_d (d1 h), e]
  show Except.ok (Instr.ifCond .eq v, pc + 1 + 1 + 1 - pc) = _
  rw [Nat.add_assoc, Nat.add_assoc, Nat.add_sub_cancel_left]
theorem dq_154 {c : ByteArray} {pc : Nat} {b1 b2 : UInt8} {t : List UInt8} {v : Int} (h : c.data.toList.drop pc = 154 :: b1 :: b2 :: t) (e : ClassFile.Reader.signed 16 (b1.toNat * 256 + b2.toNat) = v) : decode c pc = .ok (.ifCond .ne v, 3) := by
  show Except.bind (Except.bind ((ClassFile.Reader.u1 : ClassFile.Decoder Nat) c pc) _) _ = _
  rw [u1_d (n := 154) h rfl]
  show Except.bind (Except.bind ((ClassFile.Reader.s2 : ClassFile.Decoder Int) c (pc + 1)) _) _ = _
  rw [s2_d (d1 h), e]
  show Except.ok (Instr.ifCond .ne v, pc + 1 + 1 + 1 - pc) = _
  rw [Nat.add_assoc, Nat.add_assoc, Nat.add_sub_cancel_left]
theorem dq_155 {c : ByteArray} {pc : Nat} {b1 b2 : UInt8} {t : List UInt8} {v : Int} (h : c.data.toList.drop pc = 155 :: b1 :: b2 :: t) (e : ClassFile.Reader.signed 16 (b1.toNat * 256 + b2.toNat) = v) : decode c pc = .ok (.ifCond .lt v, 3) := by
  show Except.bind (Except.bind ((ClassFile.Reader.u1 : ClassFile.Decoder Nat) c pc) _) _ = _
  rw [u1_d (n := 155) h rfl]
  show Except.bind (Except.bind ((ClassFile.Reader.s2 : ClassFile.Decoder Int) c (pc + 1)) _) _ = _
  rw [s2_d (d1 h), e]
  show Except.ok (Instr.ifCond .lt v, pc + 1 + 1 + 1 - pc) = _
  rw [Nat.add_assoc, Nat.add_assoc, Nat.add_sub_cancel_left]
theorem dq_156 {c : ByteArray} {pc : Nat} {b1 b2 : UInt8} {t : List UInt8} {v : Int} (h : c.data.toList.drop pc = 156 :: b1 :: b2 :: t) (e : ClassFile.Reader.signed 16 (b1.toNat * 256 + b2.toNat) = v) : decode c pc = .ok (.ifCond .ge v, 3) := by
  show Except.bind (Except.bind ((ClassFile.Reader.u1 : ClassFile.Decoder Nat) c pc) _) _ = _
  rw [u1_d (n := 156) h rfl]
  show Except.bind (Except.bind ((ClassFile.Reader.s2 : ClassFile.Decoder Int) c (pc + 1)) _) _ = _
  rw [s2_d (d1 h), e]
  show Except.ok (Instr.ifCond .ge v, pc + 1 + 1 + 1 - pc) = _
  rw [Nat.add_assoc, Nat.add_assoc, Nat.add_sub_cancel_left]
theorem dq_157 {c : ByteArray} {pc : Nat} {b1 b2 : UInt8} {t : List UInt8} {v : Int} (h : c.data.toList.drop pc = 157 :: b1 :: b2 :: t) (e : ClassFile.Reader.signed 16 (b1.toNat * 256 + b2.toNat) = v) : decode c pc = .ok (.ifCond .gt v, 3) := by
  show Except.bind (Except.bind ((ClassFile.Reader.u1 : ClassFile.Decoder Nat) c pc) _) _ = _
  rw [u1_d (n := 157) h rfl]
  show Except.bind (Except.bind ((ClassFile.Reader.s2 : ClassFile.Decoder Int) c (pc + 1)) _) _ = _
  rw [s2_d (d1 h), e]
  show Except.ok (Instr.ifCond .gt v, pc + 1 + 1 + 1 - pc) = _
  rw [Nat.add_assoc, Nat.add_assoc, Nat.add_sub_cancel_left]
theorem dq_158 {c : ByteArray} {pc : Nat} {b1 b2 : UInt8} {t : List UInt8} {v : Int} (h : c.data.toList.drop pc = 158 :: b1 :: b2 :: t) (e : ClassFile.Reader.signed 16 (b1.toNat * 256 + b2.toNat) = v) : decode c pc = .ok (.ifCond .le v, 3) := by
  show Except.bind (Except.bind ((ClassFile.Reader.u1 : ClassFile.Decoder Nat) c pc) _) _ = _
  rw [u1_d (n := 158) h rfl]
  show Except.bind (Except.bind ((ClassFile.Reader.s2 : ClassFile.Decoder Int) c (pc + 1)) _) _ = _
  rw [s2_d (d1 h), e]
  show Except.ok (Instr.ifCond .le v, pc + 1 + 1 + 1 - pc) = _
  rw [Nat.add_assoc, Nat.add_assoc, Nat.add_sub_cancel_left]
theorem dq_159 {c : ByteArray} {pc : Nat} {b1 b2 : UInt8} {t : List UInt8} {v : Int} (h : c.data.toList.drop pc = 159 :: b1 :: b2 :: t) (e : ClassFile.Reader.signed 16 (b1.toNat * 256 + b2.toNat) = v) : decode c pc = .ok (.if_icmp .eq v, 3) := by
  show Except.bind (Except.bind ((ClassFile.Reader.u1 : ClassFile.Decoder Nat) c pc) _) _ = _
  rw [u1_d (n := 159) h rfl]
  show Except.bind (Except.bind ((ClassFile.Reader.s2 : ClassFile.Decoder Int) c (pc + 1)) _) _ = _
  rw [s2_d (d1 h), e]
  show Except.ok (Instr.if_icmp .eq v, pc + 1 + 1 + 1 - pc) = _
  rw [Nat.add_assoc, Nat.add_assoc, Nat.add_sub_cancel_left]
theorem dq_160 {c : ByteArray} {pc : Nat} {b1 b2 : UInt8} {t : List UInt8} {v : Int} (h : c.data.toList.drop pc = 160 :: b1 :: b2 :: t) (e : ClassFile.Reader.signed 16 (b1.toNat * 256 + b2.toNat) = v) : decode c pc = .ok (.if_icmp .ne v, 3) := by
  show Except.bind (Except.bind ((ClassFile.Reader.u1 : ClassFile.Decoder Nat) c pc) _) _ = _
  rw [u1_d (n := 160) h rfl]
  show Except.bind (Except.bind ((ClassFile.Reader.s2 : ClassFile.Decoder Int) c (pc + 1)) _) _ = _
  rw [s2_d (d1 h), e]
  show Except.ok (Instr.if_icmp .ne v, pc + 1 + 1 + 1 - pc) = _
  rw [Nat.add_assoc, Nat.add_assoc, Nat.add_sub_cancel_left]
theorem dq_161 {c : ByteArray} {pc : Nat} {b1 b2 : UInt8} {t : List UInt8} {v : Int} (h : c.data.toList.drop pc = 161 :: b1 :: b2 :: t) (e : ClassFile.Reader.signed 16 (b1.toNat * 256 + b2.toNat) = v) : decode c pc = .ok (.if_icmp .lt v, 3) := by
  show Except.bind (Except.bind ((ClassFile.Reader.u1 : ClassFile.Decoder Nat) c pc) _) _ = _
  rw [u1_d (n := 161) h rfl]
  show Except.bind (Except.bind ((ClassFile.Reader.s2 : ClassFile.Decoder Int) c (pc + 1)) _) _ = _
  rw [s2_d (d1 h), e]
  show Except.ok (Instr.if_icmp .lt v, pc + 1 + 1 + 1 - pc) = _
  rw [Nat.add_assoc, Nat.add_assoc, Nat.add_sub_cancel_left]
theorem dq_162 {c : ByteArray} {pc : Nat} {b1 b2 : UInt8} {t : List UInt8} {v : Int} (h : c.data.toList.drop pc = 162 :: b1 :: b2 :: t) (e : ClassFile.Reader.signed 16 (b1.toNat * 256 + b2.toNat) = v) : decode c pc = .ok (.if_icmp .ge v, 3) := by
  show Except.bind (Except.bind ((ClassFile.Reader.u1 : ClassFile.Decoder Nat) c pc) _) _ = _
  rw [u1_d (n := 162) h rfl]
  show Except.bind (Except.bind ((ClassFile.Reader.s2 : ClassFile.Decoder Int) c (pc + 1)) _) _ = _
  rw [s2_d (d1 h), e]
  show Except.ok (Instr.if_icmp .ge v, pc + 1 + 1 + 1 - pc) = _
  rw [Nat.add_assoc, Nat.add_assoc, Nat.add_sub_cancel_left]
theorem dq_163 {c : ByteArray} {pc : Nat} {b1 b2 : UInt8} {t : List UInt8} {v : Int} (h : c.data.toList.drop pc = 163 :: b1 :: b2 :: t) (e : ClassFile.Reader.signed 16 (b1.toNat * 256 + b2.toNat) = v) : decode c pc = .ok (.if_icmp .gt v, 3) := by
  show Except.bind (Except.bind ((ClassFile.Reader.u1 : ClassFile.Decoder Nat) c pc) _) _ = _
  rw [u1_d (n := 163) h rfl]
  show Except.bind (Except.bind ((ClassFile.Reader.s2 : ClassFile.Decoder Int) c (pc + 1)) _) _ = _
  rw [s2_d (d1 h), e]
  show Except.ok (Instr.if_icmp .gt v, pc + 1 + 1 + 1 - pc) = _
  rw [Nat.add_assoc, Nat.add_assoc, Nat.add_sub_cancel_left]
theorem dq_164 {c : ByteArray} {pc : Nat} {b1 b2 : UInt8} {t : List UInt8} {v : Int} (h : c.data.toList.drop pc = 164 :: b1 :: b2 :: t) (e : ClassFile.Reader.signed 16 (b1.toNat * 256 + b2.toNat) = v) : decode c pc = .ok (.if_icmp .le v, 3) := by
  show Except.bind (Except.bind ((ClassFile.Reader.u1 : ClassFile.Decoder Nat) c pc) _) _ = _
  rw [u1_d (n := 164) h rfl]
  show Except.bind (Except.bind ((ClassFile.Reader.s2 : ClassFile.Decoder Int) c (pc + 1)) _) _ = _
  rw [s2_d (d1 h), e]
  show Except.ok (Instr.if_icmp .le v, pc + 1 + 1 + 1 - pc) = _
  rw [Nat.add_assoc, Nat.add_assoc, Nat.add_sub_cancel_left]
theorem dq_167 {c : ByteArray} {pc : Nat} {b1 b2 : UInt8} {t : List UInt8} {v : Int} (h : c.data.toList.drop pc = 167 :: b1 :: b2 :: t) (e : ClassFile.Reader.signed 16 (b1.toNat * 256 + b2.toNat) = v) : decode c pc = .ok (.goto v, 3) := by
  show Except.bind (Except.bind ((ClassFile.Reader.u1 : ClassFile.Decoder Nat) c pc) _) _ = _
  rw [u1_d (n := 167) h rfl]
  show Except.bind (Except.bind ((ClassFile.Reader.s2 : ClassFile.Decoder Int) c (pc + 1)) _) _ = _
  rw [s2_d (d1 h), e]
  show Except.ok (Instr.goto v, pc + 1 + 1 + 1 - pc) = _
  rw [Nat.add_assoc, Nat.add_assoc, Nat.add_sub_cancel_left]
theorem dq_172 {c : ByteArray} {pc : Nat} {t : List UInt8} (h : c.data.toList.drop pc = 172 :: t) : decode c pc = .ok (.ireturn, 1) := by
  show Except.bind (Except.bind ((ClassFile.Reader.u1 : ClassFile.Decoder Nat) c pc) _) _ = _
  rw [u1_d (n := 172) h rfl]
  show Except.ok (Instr.ireturn, pc + 1 - pc) = _
  rw [Nat.add_sub_cancel_left]
theorem dq_173 {c : ByteArray} {pc : Nat} {t : List UInt8} (h : c.data.toList.drop pc = 173 :: t) : decode c pc = .ok (.lreturn, 1) := by
  show Except.bind (Except.bind ((ClassFile.Reader.u1 : ClassFile.Decoder Nat) c pc) _) _ = _
  rw [u1_d (n := 173) h rfl]
  show Except.ok (Instr.lreturn, pc + 1 - pc) = _
  rw [Nat.add_sub_cancel_left]
theorem dq_176 {c : ByteArray} {pc : Nat} {t : List UInt8} (h : c.data.toList.drop pc = 176 :: t) : decode c pc = .ok (.areturn, 1) := by
  show Except.bind (Except.bind ((ClassFile.Reader.u1 : ClassFile.Decoder Nat) c pc) _) _ = _
  rw [u1_d (n := 176) h rfl]
  show Except.ok (Instr.areturn, pc + 1 - pc) = _
  rw [Nat.add_sub_cancel_left]
theorem dq_177 {c : ByteArray} {pc : Nat} {t : List UInt8} (h : c.data.toList.drop pc = 177 :: t) : decode c pc = .ok (.return_, 1) := by
  show Except.bind (Except.bind ((ClassFile.Reader.u1 : ClassFile.Decoder Nat) c pc) _) _ = _
  rw [u1_d (n := 177) h rfl]
  show Except.ok (Instr.return_, pc + 1 - pc) = _
  rw [Nat.add_sub_cancel_left]
theorem dq_178 {c : ByteArray} {pc : Nat} {b1 b2 : UInt8} {t : List UInt8} {v : Nat} (h : c.data.toList.drop pc = 178 :: b1 :: b2 :: t) (e : b1.toNat * 256 + b2.toNat = v) : decode c pc = .ok (.getstatic v, 3) := by
  show Except.bind (Except.bind ((ClassFile.Reader.u1 : ClassFile.Decoder Nat) c pc) _) _ = _
  rw [u1_d (n := 178) h rfl]
  show Except.bind (Except.bind ((ClassFile.Reader.u2 : ClassFile.Decoder Nat) c (pc + 1)) _) _ = _
  rw [u2_d (d1 h), e]
  show Except.ok (Instr.getstatic v, pc + 1 + 1 + 1 - pc) = _
  rw [Nat.add_assoc, Nat.add_assoc, Nat.add_sub_cancel_left]
theorem dq_180 {c : ByteArray} {pc : Nat} {b1 b2 : UInt8} {t : List UInt8} {v : Nat} (h : c.data.toList.drop pc = 180 :: b1 :: b2 :: t) (e : b1.toNat * 256 + b2.toNat = v) : decode c pc = .ok (.getfield v, 3) := by
  show Except.bind (Except.bind ((ClassFile.Reader.u1 : ClassFile.Decoder Nat) c pc) _) _ = _
  rw [u1_d (n := 180) h rfl]
  show Except.bind (Except.bind ((ClassFile.Reader.u2 : ClassFile.Decoder Nat) c (pc + 1)) _) _ = _
  rw [u2_d (d1 h), e]
  show Except.ok (Instr.getfield v, pc + 1 + 1 + 1 - pc) = _
  rw [Nat.add_assoc, Nat.add_assoc, Nat.add_sub_cancel_left]
theorem dq_181 {c : ByteArray} {pc : Nat} {b1 b2 : UInt8} {t : List UInt8} {v : Nat} (h : c.data.toList.drop pc = 181 :: b1 :: b2 :: t) (e : b1.toNat * 256 + b2.toNat = v) : decode c pc = .ok (.putfield v, 3) := by
  show Except.bind (Except.bind ((ClassFile.Reader.u1 : ClassFile.Decoder Nat) c pc) _) _ = _
  rw [u1_d (n := 181) h rfl]
  show Except.bind (Except.bind ((ClassFile.Reader.u2 : ClassFile.Decoder Nat) c (pc + 1)) _) _ = _
  rw [u2_d (d1 h), e]
  show Except.ok (Instr.putfield v, pc + 1 + 1 + 1 - pc) = _
  rw [Nat.add_assoc, Nat.add_assoc, Nat.add_sub_cancel_left]
theorem dq_182 {c : ByteArray} {pc : Nat} {b1 b2 : UInt8} {t : List UInt8} {v : Nat} (h : c.data.toList.drop pc = 182 :: b1 :: b2 :: t) (e : b1.toNat * 256 + b2.toNat = v) : decode c pc = .ok (.invokevirtual v, 3) := by
  show Except.bind (Except.bind ((ClassFile.Reader.u1 : ClassFile.Decoder Nat) c pc) _) _ = _
  rw [u1_d (n := 182) h rfl]
  show Except.bind (Except.bind ((ClassFile.Reader.u2 : ClassFile.Decoder Nat) c (pc + 1)) _) _ = _
  rw [u2_d (d1 h), e]
  show Except.ok (Instr.invokevirtual v, pc + 1 + 1 + 1 - pc) = _
  rw [Nat.add_assoc, Nat.add_assoc, Nat.add_sub_cancel_left]
theorem dq_183 {c : ByteArray} {pc : Nat} {b1 b2 : UInt8} {t : List UInt8} {v : Nat} (h : c.data.toList.drop pc = 183 :: b1 :: b2 :: t) (e : b1.toNat * 256 + b2.toNat = v) : decode c pc = .ok (.invokespecial v, 3) := by
  show Except.bind (Except.bind ((ClassFile.Reader.u1 : ClassFile.Decoder Nat) c pc) _) _ = _
  rw [u1_d (n := 183) h rfl]
  show Except.bind (Except.bind ((ClassFile.Reader.u2 : ClassFile.Decoder Nat) c (pc + 1)) _) _ = _
  rw [u2_d (d1 h), e]
  show Except.ok (Instr.invokespecial v, pc + 1 + 1 + 1 - pc) = _
  rw [Nat.add_assoc, Nat.add_assoc, Nat.add_sub_cancel_left]
theorem dq_184 {c : ByteArray} {pc : Nat} {b1 b2 : UInt8} {t : List UInt8} {v : Nat} (h : c.data.toList.drop pc = 184 :: b1 :: b2 :: t) (e : b1.toNat * 256 + b2.toNat = v) : decode c pc = .ok (.invokestatic v, 3) := by
  show Except.bind (Except.bind ((ClassFile.Reader.u1 : ClassFile.Decoder Nat) c pc) _) _ = _
  rw [u1_d (n := 184) h rfl]
  show Except.bind (Except.bind ((ClassFile.Reader.u2 : ClassFile.Decoder Nat) c (pc + 1)) _) _ = _
  rw [u2_d (d1 h), e]
  show Except.ok (Instr.invokestatic v, pc + 1 + 1 + 1 - pc) = _
  rw [Nat.add_assoc, Nat.add_assoc, Nat.add_sub_cancel_left]
theorem dq_187 {c : ByteArray} {pc : Nat} {b1 b2 : UInt8} {t : List UInt8} {v : Nat} (h : c.data.toList.drop pc = 187 :: b1 :: b2 :: t) (e : b1.toNat * 256 + b2.toNat = v) : decode c pc = .ok (.new v, 3) := by
  show Except.bind (Except.bind ((ClassFile.Reader.u1 : ClassFile.Decoder Nat) c pc) _) _ = _
  rw [u1_d (n := 187) h rfl]
  show Except.bind (Except.bind ((ClassFile.Reader.u2 : ClassFile.Decoder Nat) c (pc + 1)) _) _ = _
  rw [u2_d (d1 h), e]
  show Except.ok (Instr.new v, pc + 1 + 1 + 1 - pc) = _
  rw [Nat.add_assoc, Nat.add_assoc, Nat.add_sub_cancel_left]
theorem dq_188_4 {c : ByteArray} {pc : Nat} {t : List UInt8} (h : c.data.toList.drop pc = 188 :: 4 :: t) : decode c pc = .ok (.newarray .boolean, 2) := by
  show Except.bind (Except.bind ((ClassFile.Reader.u1 : ClassFile.Decoder Nat) c pc) _) _ = _
  rw [u1_d (n := 188) h rfl]
  show Except.bind (Except.bind ((ClassFile.Reader.u1 : ClassFile.Decoder Nat) c (pc + 1)) _) _ = _
  rw [u1_d (n := 4) (d1 h) rfl]
  show Except.ok (Instr.newarray .boolean, pc + 1 + 1 - pc) = _
  rw [Nat.add_assoc, Nat.add_sub_cancel_left]
theorem dq_188_8 {c : ByteArray} {pc : Nat} {t : List UInt8} (h : c.data.toList.drop pc = 188 :: 8 :: t) : decode c pc = .ok (.newarray .byte, 2) := by
  show Except.bind (Except.bind ((ClassFile.Reader.u1 : ClassFile.Decoder Nat) c pc) _) _ = _
  rw [u1_d (n := 188) h rfl]
  show Except.bind (Except.bind ((ClassFile.Reader.u1 : ClassFile.Decoder Nat) c (pc + 1)) _) _ = _
  rw [u1_d (n := 8) (d1 h) rfl]
  show Except.ok (Instr.newarray .byte, pc + 1 + 1 - pc) = _
  rw [Nat.add_assoc, Nat.add_sub_cancel_left]
theorem dq_188_10 {c : ByteArray} {pc : Nat} {t : List UInt8} (h : c.data.toList.drop pc = 188 :: 10 :: t) : decode c pc = .ok (.newarray .int, 2) := by
  show Except.bind (Except.bind ((ClassFile.Reader.u1 : ClassFile.Decoder Nat) c pc) _) _ = _
  rw [u1_d (n := 188) h rfl]
  show Except.bind (Except.bind ((ClassFile.Reader.u1 : ClassFile.Decoder Nat) c (pc + 1)) _) _ = _
  rw [u1_d (n := 10) (d1 h) rfl]
  show Except.ok (Instr.newarray .int, pc + 1 + 1 - pc) = _
  rw [Nat.add_assoc, Nat.add_sub_cancel_left]
theorem dq_188_11 {c : ByteArray} {pc : Nat} {t : List UInt8} (h : c.data.toList.drop pc = 188 :: 11 :: t) : decode c pc = .ok (.newarray .long, 2) := by
  show Except.bind (Except.bind ((ClassFile.Reader.u1 : ClassFile.Decoder Nat) c pc) _) _ = _
  rw [u1_d (n := 188) h rfl]
  show Except.bind (Except.bind ((ClassFile.Reader.u1 : ClassFile.Decoder Nat) c (pc + 1)) _) _ = _
  rw [u1_d (n := 11) (d1 h) rfl]
  show Except.ok (Instr.newarray .long, pc + 1 + 1 - pc) = _
  rw [Nat.add_assoc, Nat.add_sub_cancel_left]
theorem dq_190 {c : ByteArray} {pc : Nat} {t : List UInt8} (h : c.data.toList.drop pc = 190 :: t) : decode c pc = .ok (.arraylength, 1) := by
  show Except.bind (Except.bind ((ClassFile.Reader.u1 : ClassFile.Decoder Nat) c pc) _) _ = _
  rw [u1_d (n := 190) h rfl]
  show Except.ok (Instr.arraylength, pc + 1 - pc) = _
  rw [Nat.add_sub_cancel_left]
theorem dq_191 {c : ByteArray} {pc : Nat} {t : List UInt8} (h : c.data.toList.drop pc = 191 :: t) : decode c pc = .ok (.athrow, 1) := by
  show Except.bind (Except.bind ((ClassFile.Reader.u1 : ClassFile.Decoder Nat) c pc) _) _ = _
  rw [u1_d (n := 191) h rfl]
  show Except.ok (Instr.athrow, pc + 1 - pc) = _
  rw [Nat.add_sub_cancel_left]
noncomputable def rb_prog_2_method_2_code_0 : List UInt8 := 26 :: 17 :: 3 :: 232 :: 108 :: 172 :: []
theorem rd_prog_2_method_2_code_0 : prog_2_method_2_code.data.toList.drop 0 = rb_prog_2_method_2_code_0 := by decide +kernel
noncomputable def rb_prog_2_method_3_code_0 : List UInt8 := 26 :: 16 :: 100 :: 108 :: 16 :: 10 :: 112 :: 172 :: []
theorem rd_prog_2_method_3_code_0 : prog_2_method_3_code.data.toList.drop 0 = rb_prog_2_method_3_code_0 := by decide +kernel
noncomputable def rb_prog_2_method_4_code_0 : List UInt8 := 26 :: 16 :: 10 :: 108 :: 16 :: 10 :: 112 :: 172 :: []
theorem rd_prog_2_method_4_code_0 : prog_2_method_4_code.data.toList.drop 0 = rb_prog_2_method_4_code_0 := by decide +kernel
noncomputable def rb_prog_2_method_5_code_0 : List UInt8 := 26 :: 16 :: 10 :: 112 :: 172 :: []
theorem rd_prog_2_method_5_code_0 : prog_2_method_5_code.data.toList.drop 0 = rb_prog_2_method_5_code_0 := by decide +kernel
noncomputable def rb_prog_2_method_6_code_0 : List UInt8 := 26 :: 27 :: 184 :: 0 :: 7 :: 184 :: 0 :: 13 :: 16 :: 100 :: 27 :: 184 :: 0 :: 19 :: 104 :: 96 :: 16 :: 90 :: 27 :: 184 :: 0 :: 22 :: 104 :: 100 :: 172 :: []
theorem rd_prog_2_method_6_code_0 : prog_2_method_6_code.data.toList.drop 0 = rb_prog_2_method_6_code_0 := by decide +kernel
noncomputable def rb_prog_3_method_1_code_0 : List UInt8 := 42 :: 183 :: 0 :: 3 :: 42 :: 16 :: 35 :: 188 :: 11 :: 181 :: 0 :: 11 :: 42 :: 16 :: 35 :: 188 :: 11 :: 181 :: 0 :: 17 :: 177 :: []
theorem rd_prog_3_method_1_code_0 : prog_3_method_1_code.data.toList.drop 0 = rb_prog_3_method_1_code_0 := by decide +kernel
noncomputable def rb_prog_3_method_2_code_0 : List UInt8 := 42 :: 180 :: 0 :: 11 :: 9 :: 184 :: 0 :: 20 :: 42 :: 180 :: 0 :: 11 :: 27 :: 184 :: 0 :: 26 :: 10 :: 80 :: 42 :: 10 :: 181 :: 0 :: 30 :: 42 :: 9 :: 181 :: 0 :: 34 :: 177 :: []
theorem rd_prog_3_method_2_code_0 : prog_3_method_2_code.data.toList.drop 0 = rb_prog_3_method_2_code_0 := by decide +kernel
noncomputable def rb_prog_3_method_3_code_2 : List UInt8 := 21 :: 6 :: 21 :: 7 :: 96 :: 21 :: 4 :: 42 :: 180 :: 0 :: 11 :: 21 :: 5 :: 47 :: 182 :: 0 :: 53 :: 132 :: 5 :: 1 :: 167 :: 255 :: 193 :: 177 :: []
noncomputable def rb_prog_3_method_3_code_1 : List UInt8 := 21 :: 5 :: 47 :: 9 :: 148 :: 153 :: 0 :: 44 :: 178 :: 0 :: 43 :: 21 :: 5 :: 46 :: 54 :: 6 :: 16 :: 100 :: 43 :: 28 :: 21 :: 6 :: 29 :: 182 :: 0 :: 47 :: 104 :: 54 :: 7 :: 42 :: 43 :: 28 :: rb_prog_3_method_3_code_2
noncomputable def rb_prog_3_method_3_code_0 : List UInt8 := 42 :: 180 :: 0 :: 17 :: 9 :: 184 :: 0 :: 20 :: 42 :: 9 :: 181 :: 0 :: 37 :: 42 :: 9 :: 181 :: 0 :: 40 :: 3 :: 54 :: 5 :: 21 :: 5 :: 16 :: 35 :: 162 :: 0 :: 62 :: 42 :: 180 :: 0 :: 11 :: rb_prog_3_method_3_code_1
theorem rd_prog_3_method_3_code_0 : prog_3_method_3_code.data.toList.drop 0 = rb_prog_3_method_3_code_0 := by decide +kernel
theorem rd_prog_3_method_3_code_1 : prog_3_method_3_code.data.toList.drop 32 = rb_prog_3_method_3_code_1 := dst 32 rd_prog_3_method_3_code_0 rfl
theorem rd_prog_3_method_3_code_2 : prog_3_method_3_code.data.toList.drop 64 = rb_prog_3_method_3_code_2 := dst 32 rd_prog_3_method_3_code_1 rfl
noncomputable def rb_prog_3_method_4_code_2 : List UInt8 := 184 :: 0 :: 64 :: 133 :: 105 :: 97 :: 181 :: 0 :: 40 :: 42 :: 180 :: 0 :: 17 :: 29 :: 184 :: 0 :: 26 :: 92 :: 47 :: 22 :: 5 :: 97 :: 80 :: 177 :: []
noncomputable def rb_prog_3_method_4_code_1 : List UInt8 := 34 :: 42 :: 89 :: 180 :: 0 :: 37 :: 21 :: 7 :: 158 :: 0 :: 8 :: 22 :: 5 :: 167 :: 0 :: 4 :: 9 :: 97 :: 181 :: 0 :: 37 :: 42 :: 89 :: 180 :: 0 :: 40 :: 22 :: 5 :: 3 :: 21 :: 7 :: 116 :: rb_prog_3_method_4_code_2
noncomputable def rb_prog_3_method_4_code_0 : List UInt8 := 43 :: 28 :: 29 :: 21 :: 4 :: 3 :: 182 :: 0 :: 57 :: 54 :: 7 :: 42 :: 89 :: 180 :: 0 :: 34 :: 22 :: 5 :: 43 :: 28 :: 29 :: 21 :: 4 :: 3 :: 182 :: 0 :: 61 :: 133 :: 105 :: 97 :: 181 :: 0 :: rb_prog_3_method_4_code_1
theorem rd_prog_3_method_4_code_0 : prog_3_method_4_code.data.toList.drop 0 = rb_prog_3_method_4_code_0 := by decide +kernel
theorem rd_prog_3_method_4_code_1 : prog_3_method_4_code.data.toList.drop 32 = rb_prog_3_method_4_code_1 := dst 32 rd_prog_3_method_4_code_0 rfl
theorem rd_prog_3_method_4_code_2 : prog_3_method_4_code.data.toList.drop 64 = rb_prog_3_method_4_code_2 := dst 32 rd_prog_3_method_4_code_1 rfl
noncomputable def rb_prog_3_method_5_code_2 : List UInt8 := 132 :: 2 :: 1 :: 167 :: 255 :: 199 :: 42 :: 89 :: 180 :: 0 :: 30 :: 20 :: 0 :: 73 :: 105 :: 181 :: 0 :: 30 :: 42 :: 89 :: 180 :: 0 :: 34 :: 20 :: 0 :: 73 :: 105 :: 181 :: 0 :: 34 :: 177 :: []
noncomputable def rb_prog_3_method_5_code_1 : List UInt8 := 162 :: 0 :: 32 :: 42 :: 180 :: 0 :: 11 :: 29 :: 92 :: 47 :: 42 :: 180 :: 0 :: 17 :: 28 :: 47 :: 43 :: 28 :: 29 :: 182 :: 0 :: 70 :: 133 :: 105 :: 97 :: 80 :: 132 :: 3 :: 1 :: 167 :: 255 :: 224 :: rb_prog_3_method_5_code_2
noncomputable def rb_prog_3_method_5_code_0 : List UInt8 := 42 :: 180 :: 0 :: 11 :: 9 :: 184 :: 0 :: 20 :: 3 :: 61 :: 28 :: 16 :: 35 :: 162 :: 0 :: 57 :: 42 :: 180 :: 0 :: 17 :: 28 :: 47 :: 9 :: 148 :: 153 :: 0 :: 40 :: 3 :: 62 :: 29 :: 16 :: 15 :: rb_prog_3_method_5_code_1
theorem rd_prog_3_method_5_code_0 : prog_3_method_5_code.data.toList.drop 0 = rb_prog_3_method_5_code_0 := by decide +kernel
theorem rd_prog_3_method_5_code_1 : prog_3_method_5_code.data.toList.drop 32 = rb_prog_3_method_5_code_1 := dst 32 rd_prog_3_method_5_code_0 rfl
theorem rd_prog_3_method_5_code_2 : prog_3_method_5_code.data.toList.drop 64 = rb_prog_3_method_5_code_2 := dst 32 rd_prog_3_method_5_code_1 rfl
noncomputable def rb_prog_3_method_6_code_1 : List UInt8 := 0 :: 34 :: 132 :: 2 :: 1 :: 167 :: 255 :: 221 :: 177 :: []
noncomputable def rb_prog_3_method_6_code_0 : List UInt8 := 3 :: 61 :: 28 :: 16 :: 35 :: 162 :: 0 :: 35 :: 42 :: 89 :: 180 :: 0 :: 34 :: 42 :: 180 :: 0 :: 11 :: 28 :: 47 :: 43 :: 178 :: 0 :: 43 :: 28 :: 46 :: 182 :: 0 :: 75 :: 133 :: 105 :: 97 :: 181 :: rb_prog_3_method_6_code_1
theorem rd_prog_3_method_6_code_0 : prog_3_method_6_code.data.toList.drop 0 = rb_prog_3_method_6_code_0 := by decide +kernel
theorem rd_prog_3_method_6_code_1 : prog_3_method_6_code.data.toList.drop 32 = rb_prog_3_method_6_code_1 := dst 32 rd_prog_3_method_6_code_0 rfl
noncomputable def rb_prog_3_method_7_code_1 : List UInt8 := 47 :: 97 :: 65 :: 132 :: 4 :: 1 :: 167 :: 255 :: 223 :: 32 :: 173 :: []
noncomputable def rb_prog_3_method_7_code_0 : List UInt8 := 9 :: 65 :: 3 :: 54 :: 4 :: 21 :: 4 :: 16 :: 35 :: 162 :: 0 :: 32 :: 178 :: 0 :: 43 :: 21 :: 4 :: 46 :: 184 :: 0 :: 78 :: 27 :: 160 :: 0 :: 13 :: 32 :: 42 :: 180 :: 0 :: 11 :: 21 :: 4 :: rb_prog_3_method_7_code_1
theorem rd_prog_3_method_7_code_0 : prog_3_method_7_code.data.toList.drop 0 = rb_prog_3_method_7_code_0 := by decide +kernel
theorem rd_prog_3_method_7_code_1 : prog_3_method_7_code.data.toList.drop 32 = rb_prog_3_method_7_code_1 := dst 32 rd_prog_3_method_7_code_0 rfl
noncomputable def rb_prog_4_method_1_code_0 : List UInt8 := 42 :: 183 :: 0 :: 3 :: 42 :: 43 :: 181 :: 0 :: 9 :: 177 :: []
theorem rd_prog_4_method_1_code_0 : prog_4_method_1_code.data.toList.drop 0 = rb_prog_4_method_1_code_0 := by decide +kernel
noncomputable def rb_prog_4_method_2_code_0 : List UInt8 := 42 :: 3 :: 181 :: 0 :: 15 :: 42 :: 3 :: 181 :: 0 :: 19 :: 177 :: []
theorem rd_prog_4_method_2_code_0 : prog_4_method_2_code.data.toList.drop 0 = rb_prog_4_method_2_code_0 := by decide +kernel
noncomputable def rb_prog_4_method_3_code_0 : List UInt8 := 42 :: 180 :: 0 :: 19 :: 154 :: 0 :: 21 :: 42 :: 180 :: 0 :: 15 :: 42 :: 180 :: 0 :: 9 :: 180 :: 0 :: 23 :: 162 :: 0 :: 7 :: 4 :: 167 :: 0 :: 4 :: 3 :: 172 :: []
theorem rd_prog_4_method_3_code_0 : prog_4_method_3_code.data.toList.drop 0 = rb_prog_4_method_3_code_0 := by decide +kernel
noncomputable def rb_prog_4_method_4_code_0 : List UInt8 := 42 :: 180 :: 0 :: 9 :: 42 :: 180 :: 0 :: 15 :: 182 :: 0 :: 28 :: 172 :: []
theorem rd_prog_4_method_4_code_0 : prog_4_method_4_code.data.toList.drop 0 = rb_prog_4_method_4_code_0 := by decide +kernel
noncomputable def rb_prog_4_method_5_code_0 : List UInt8 := 42 :: 89 :: 180 :: 0 :: 15 :: 4 :: 96 :: 181 :: 0 :: 15 :: 177 :: []
theorem rd_prog_4_method_5_code_0 : prog_4_method_5_code.data.toList.drop 0 = rb_prog_4_method_5_code_0 := by decide +kernel
noncomputable def rb_prog_4_method_6_code_0 : List UInt8 := 42 :: 4 :: 181 :: 0 :: 19 :: 177 :: []
theorem rd_prog_4_method_6_code_0 : prog_4_method_6_code.data.toList.drop 0 = rb_prog_4_method_6_code_0 := by decide +kernel
noncomputable def rb_prog_4_method_7_code_1 : List UInt8 := 172 :: 42 :: 182 :: 0 :: 39 :: 28 :: 172 :: []
noncomputable def rb_prog_4_method_7_code_0 : List UInt8 := 42 :: 182 :: 0 :: 32 :: 16 :: 48 :: 100 :: 61 :: 28 :: 155 :: 0 :: 17 :: 28 :: 16 :: 9 :: 163 :: 0 :: 11 :: 27 :: 28 :: 122 :: 4 :: 126 :: 154 :: 0 :: 10 :: 42 :: 182 :: 0 :: 36 :: 16 :: 247 :: rb_prog_4_method_7_code_1
theorem rd_prog_4_method_7_code_0 : prog_4_method_7_code.data.toList.drop 0 = rb_prog_4_method_7_code_0 := by decide +kernel
theorem rd_prog_4_method_7_code_1 : prog_4_method_7_code.data.toList.drop 32 = rb_prog_4_method_7_code_1 := dst 32 rd_prog_4_method_7_code_0 rfl
noncomputable def rb_prog_4_method_8_code_0 : List UInt8 := 42 :: 180 :: 0 :: 19 :: 153 :: 0 :: 10 :: 42 :: 180 :: 0 :: 15 :: 167 :: 0 :: 5 :: 16 :: 247 :: 172 :: []
theorem rd_prog_4_method_8_code_0 : prog_4_method_8_code.data.toList.drop 0 = rb_prog_4_method_8_code_0 := by decide +kernel
noncomputable def rb_prog_4_method_9_code_0 : List UInt8 := 4 :: 27 :: 4 :: 96 :: 120 :: 4 :: 26 :: 120 :: 100 :: 172 :: []
theorem rd_prog_4_method_9_code_0 : prog_4_method_9_code.data.toList.drop 0 = rb_prog_4_method_9_code_0 := by decide +kernel
noncomputable def rb_prog_5_method_2_code_0 : List UInt8 := 27 :: 154 :: 0 :: 10 :: 26 :: 16 :: 100 :: 108 :: 167 :: 0 :: 22 :: 27 :: 4 :: 160 :: 0 :: 13 :: 26 :: 16 :: 10 :: 108 :: 16 :: 10 :: 112 :: 167 :: 0 :: 7 :: 26 :: 16 :: 10 :: 112 :: 172 :: []
theorem rd_prog_5_method_2_code_0 : prog_5_method_2_code.data.toList.drop 0 = rb_prog_5_method_2_code_0 := by decide +kernel
noncomputable def rb_prog_5_method_3_code_0 : List UInt8 := 26 :: 16 :: 100 :: 108 :: 26 :: 16 :: 10 :: 108 :: 16 :: 10 :: 112 :: 96 :: 26 :: 16 :: 10 :: 112 :: 96 :: 172 :: []
theorem rd_prog_5_method_3_code_0 : prog_5_method_3_code.data.toList.drop 0 = rb_prog_5_method_3_code_0 := by decide +kernel
noncomputable def rb_prog_5_method_4_code_0 : List UInt8 := 26 :: 155 :: 0 :: 22 :: 26 :: 17 :: 3 :: 231 :: 163 :: 0 :: 15 :: 26 :: 184 :: 0 :: 9 :: 27 :: 163 :: 0 :: 7 :: 4 :: 167 :: 0 :: 4 :: 3 :: 172 :: []
theorem rd_prog_5_method_4_code_0 : prog_5_method_4_code.data.toList.drop 0 = rb_prog_5_method_4_code_0 := by decide +kernel
noncomputable def rb_prog_5_method_5_code_1 : List UInt8 := 0 :: 4 :: 3 :: 172 :: []
noncomputable def rb_prog_5_method_5_code_0 : List UInt8 := 26 :: 155 :: 0 :: 33 :: 26 :: 17 :: 1 :: 188 :: 163 :: 0 :: 26 :: 26 :: 16 :: 10 :: 108 :: 16 :: 10 :: 112 :: 7 :: 163 :: 0 :: 15 :: 26 :: 16 :: 10 :: 112 :: 7 :: 163 :: 0 :: 7 :: 4 :: 167 :: rb_prog_5_method_5_code_1
theorem rd_prog_5_method_5_code_0 : prog_5_method_5_code.data.toList.drop 0 = rb_prog_5_method_5_code_0 := by decide +kernel
theorem rd_prog_5_method_5_code_1 : prog_5_method_5_code.data.toList.drop 32 = rb_prog_5_method_5_code_1 := dst 32 rd_prog_5_method_5_code_0 rfl
noncomputable def rb_prog_5_method_6_code_1 : List UInt8 := 29 :: 96 :: 26 :: 16 :: 10 :: 112 :: 96 :: 172 :: []
noncomputable def rb_prog_5_method_6_code_0 : List UInt8 := 26 :: 16 :: 100 :: 108 :: 60 :: 26 :: 16 :: 10 :: 108 :: 16 :: 10 :: 112 :: 61 :: 28 :: 8 :: 27 :: 100 :: 104 :: 28 :: 28 :: 4 :: 100 :: 104 :: 5 :: 108 :: 100 :: 62 :: 178 :: 0 :: 15 :: 27 :: 46 :: rb_prog_5_method_6_code_1
theorem rd_prog_5_method_6_code_0 : prog_5_method_6_code.data.toList.drop 0 = rb_prog_5_method_6_code_0 := by decide +kernel
theorem rd_prog_5_method_6_code_1 : prog_5_method_6_code.data.toList.drop 32 = rb_prog_5_method_6_code_1 := dst 32 rd_prog_5_method_6_code_0 rfl
noncomputable def rb_prog_5_method_7_code_1 : List UInt8 := 26 :: 16 :: 10 :: 112 :: 163 :: 0 :: 7 :: 4 :: 167 :: 0 :: 4 :: 3 :: 172 :: []
noncomputable def rb_prog_5_method_7_code_0 : List UInt8 := 27 :: 16 :: 100 :: 108 :: 26 :: 16 :: 100 :: 108 :: 163 :: 0 :: 35 :: 27 :: 16 :: 10 :: 108 :: 16 :: 10 :: 112 :: 26 :: 16 :: 10 :: 108 :: 16 :: 10 :: 112 :: 163 :: 0 :: 18 :: 27 :: 16 :: 10 :: 112 :: rb_prog_5_method_7_code_1
theorem rd_prog_5_method_7_code_0 : prog_5_method_7_code.data.toList.drop 0 = rb_prog_5_method_7_code_0 := by decide +kernel
theorem rd_prog_5_method_7_code_1 : prog_5_method_7_code.data.toList.drop 32 = rb_prog_5_method_7_code_1 := dst 32 rd_prog_5_method_7_code_0 rfl
noncomputable def rb_prog_5_method_8_code_1 : List UInt8 := 104 :: 100 :: 27 :: 28 :: 100 :: 29 :: 100 :: 100 :: 172 :: []
noncomputable def rb_prog_5_method_8_code_0 : List UInt8 := 27 :: 26 :: 16 :: 100 :: 108 :: 184 :: 0 :: 19 :: 61 :: 27 :: 28 :: 100 :: 26 :: 16 :: 10 :: 108 :: 16 :: 10 :: 112 :: 184 :: 0 :: 19 :: 62 :: 26 :: 16 :: 100 :: 28 :: 104 :: 100 :: 16 :: 10 :: 29 :: rb_prog_5_method_8_code_1
theorem rd_prog_5_method_8_code_0 : prog_5_method_8_code.data.toList.drop 0 = rb_prog_5_method_8_code_0 := by decide +kernel
theorem rd_prog_5_method_8_code_1 : prog_5_method_8_code.data.toList.drop 32 = rb_prog_5_method_8_code_1 := dst 32 rd_prog_5_method_8_code_0 rfl
noncomputable def rb_prog_5_method_9_code_0 : List UInt8 := 26 :: 27 :: 100 :: 61 :: 16 :: 10 :: 28 :: 16 :: 100 :: 108 :: 104 :: 28 :: 16 :: 10 :: 108 :: 16 :: 10 :: 112 :: 96 :: 28 :: 16 :: 10 :: 112 :: 96 :: 172 :: []
theorem rd_prog_5_method_9_code_0 : prog_5_method_9_code.data.toList.drop 0 = rb_prog_5_method_9_code_0 := by decide +kernel
noncomputable def rb_prog_6_method_1_code_1 : List UInt8 := 42 :: 17 :: 2 :: 13 :: 188 :: 10 :: 181 :: 0 :: 26 :: 42 :: 182 :: 0 :: 29 :: 177 :: []
noncomputable def rb_prog_6_method_1_code_0 : List UInt8 := 42 :: 183 :: 0 :: 3 :: 42 :: 8 :: 188 :: 10 :: 181 :: 0 :: 9 :: 42 :: 8 :: 188 :: 10 :: 181 :: 0 :: 15 :: 42 :: 6 :: 188 :: 10 :: 181 :: 0 :: 18 :: 42 :: 6 :: 188 :: 10 :: 181 :: 0 :: 21 :: rb_prog_6_method_1_code_1
theorem rd_prog_6_method_1_code_0 : prog_6_method_1_code.data.toList.drop 0 = rb_prog_6_method_1_code_0 := by decide +kernel
theorem rd_prog_6_method_1_code_1 : prog_6_method_1_code.data.toList.drop 32 = rb_prog_6_method_1_code_1 := dst 32 rd_prog_6_method_1_code_0 rfl
noncomputable def rb_prog_6_method_2_code_2 : List UInt8 := 42 :: 16 :: 247 :: 181 :: 0 :: 57 :: 42 :: 16 :: 247 :: 181 :: 0 :: 60 :: 42 :: 3 :: 181 :: 0 :: 63 :: 177 :: []
noncomputable def rb_prog_6_method_2_code_1 : List UInt8 := 0 :: 39 :: 42 :: 180 :: 0 :: 21 :: 7 :: 184 :: 0 :: 39 :: 42 :: 4 :: 181 :: 0 :: 45 :: 42 :: 4 :: 181 :: 0 :: 48 :: 42 :: 16 :: 247 :: 181 :: 0 :: 51 :: 42 :: 16 :: 247 :: 181 :: 0 :: 54 :: rb_prog_6_method_2_code_2
noncomputable def rb_prog_6_method_2_code_0 : List UInt8 := 42 :: 4 :: 181 :: 0 :: 32 :: 42 :: 5 :: 181 :: 0 :: 36 :: 42 :: 180 :: 0 :: 9 :: 3 :: 184 :: 0 :: 39 :: 42 :: 180 :: 0 :: 15 :: 4 :: 184 :: 0 :: 39 :: 42 :: 180 :: 0 :: 18 :: 4 :: 184 :: rb_prog_6_method_2_code_1
theorem rd_prog_6_method_2_code_0 : prog_6_method_2_code.data.toList.drop 0 = rb_prog_6_method_2_code_0 := by decide +kernel
theorem rd_prog_6_method_2_code_1 : prog_6_method_2_code.data.toList.drop 32 = rb_prog_6_method_2_code_1 := dst 32 rd_prog_6_method_2_code_0 rfl
theorem rd_prog_6_method_2_code_2 : prog_6_method_2_code.data.toList.drop 64 = rb_prog_6_method_2_code_2 := dst 32 rd_prog_6_method_2_code_1 rfl
noncomputable def rb_prog_6_method_3_code_5 : List UInt8 := 181 :: 0 :: 48 :: 167 :: 0 :: 11 :: 42 :: 27 :: 29 :: 21 :: 4 :: 182 :: 0 :: 66 :: 177 :: []
noncomputable def rb_prog_6_method_3_code_4 : List UInt8 := 0 :: 47 :: 42 :: 180 :: 0 :: 18 :: 28 :: 29 :: 79 :: 167 :: 0 :: 37 :: 42 :: 180 :: 0 :: 21 :: 28 :: 29 :: 79 :: 167 :: 0 :: 27 :: 42 :: 29 :: 181 :: 0 :: 45 :: 167 :: 0 :: 19 :: 42 :: 29 :: rb_prog_6_method_3_code_5
noncomputable def rb_prog_6_method_3_code_3 : List UInt8 := 42 :: 29 :: 181 :: 0 :: 36 :: 167 :: 0 :: 73 :: 42 :: 180 :: 0 :: 9 :: 28 :: 16 :: 10 :: 29 :: 104 :: 21 :: 4 :: 96 :: 79 :: 167 :: 0 :: 57 :: 42 :: 180 :: 0 :: 15 :: 28 :: 29 :: 79 :: 167 :: rb_prog_6_method_3_code_4
noncomputable def rb_prog_6_method_3_code_2 : List UInt8 := 0 :: 0 :: 0 :: 149 :: 0 :: 0 :: 0 :: 129 :: 0 :: 0 :: 0 :: 165 :: 0 :: 0 :: 0 :: 157 :: 0 :: 0 :: 0 :: 165 :: 0 :: 0 :: 0 :: 165 :: 0 :: 0 :: 0 :: 165 :: 0 :: 0 :: 0 :: 103 :: rb_prog_6_method_3_code_3
noncomputable def rb_prog_6_method_3_code_1 : List UInt8 := 0 :: 0 :: 0 :: 95 :: 0 :: 0 :: 0 :: 165 :: 0 :: 0 :: 0 :: 165 :: 0 :: 0 :: 0 :: 165 :: 0 :: 0 :: 0 :: 165 :: 0 :: 0 :: 0 :: 165 :: 0 :: 0 :: 0 :: 165 :: 0 :: 0 :: 0 :: 119 :: rb_prog_6_method_3_code_2
noncomputable def rb_prog_6_method_3_code_0 : List UInt8 := 27 :: 170 :: 0 :: 0 :: 0 :: 0 :: 0 :: 165 :: 0 :: 0 :: 0 :: 68 :: 0 :: 0 :: 0 :: 87 :: 0 :: 0 :: 0 :: 139 :: 0 :: 0 :: 0 :: 165 :: 0 :: 0 :: 0 :: 165 :: 0 :: 0 :: 0 :: 165 :: rb_prog_6_method_3_code_1
theorem rd_prog_6_method_3_code_0 : prog_6_method_3_code.data.toList.drop 0 = rb_prog_6_method_3_code_0 := by decide +kernel
theorem rd_prog_6_method_3_code_1 : prog_6_method_3_code.data.toList.drop 32 = rb_prog_6_method_3_code_1 := dst 32 rd_prog_6_method_3_code_0 rfl
theorem rd_prog_6_method_3_code_2 : prog_6_method_3_code.data.toList.drop 64 = rb_prog_6_method_3_code_2 := dst 32 rd_prog_6_method_3_code_1 rfl
theorem rd_prog_6_method_3_code_3 : prog_6_method_3_code.data.toList.drop 96 = rb_prog_6_method_3_code_3 := dst 32 rd_prog_6_method_3_code_2 rfl
theorem rd_prog_6_method_3_code_4 : prog_6_method_3_code.data.toList.drop 128 = rb_prog_6_method_3_code_4 := dst 32 rd_prog_6_method_3_code_3 rfl
theorem rd_prog_6_method_3_code_5 : prog_6_method_3_code.data.toList.drop 160 = rb_prog_6_method_3_code_5 := dst 32 rd_prog_6_method_3_code_4 rfl
noncomputable def rb_prog_6_method_4_code_2 : List UInt8 := 57 :: 167 :: 0 :: 16 :: 42 :: 28 :: 181 :: 0 :: 60 :: 42 :: 29 :: 181 :: 0 :: 63 :: 167 :: 0 :: 3 :: 177 :: []
noncomputable def rb_prog_6_method_4_code_1 : List UInt8 := 0 :: 0 :: 0 :: 43 :: 0 :: 0 :: 0 :: 84 :: 0 :: 0 :: 0 :: 51 :: 42 :: 28 :: 181 :: 0 :: 51 :: 167 :: 0 :: 32 :: 42 :: 28 :: 181 :: 0 :: 54 :: 167 :: 0 :: 24 :: 42 :: 28 :: 181 :: 0 :: rb_prog_6_method_4_code_2
noncomputable def rb_prog_6_method_4_code_0 : List UInt8 := 27 :: 171 :: 0 :: 0 :: 0 :: 0 :: 0 :: 80 :: 0 :: 0 :: 0 :: 4 :: 0 :: 0 :: 0 :: 65 :: 0 :: 0 :: 0 :: 59 :: 0 :: 0 :: 0 :: 66 :: 0 :: 0 :: 0 :: 67 :: 0 :: 0 :: 0 :: 71 :: rb_prog_6_method_4_code_1
theorem rd_prog_6_method_4_code_0 : prog_6_method_4_code.data.toList.drop 0 = rb_prog_6_method_4_code_0 := by decide +kernel
theorem rd_prog_6_method_4_code_1 : prog_6_method_4_code.data.toList.drop 32 = rb_prog_6_method_4_code_1 := dst 32 rd_prog_6_method_4_code_0 rfl
theorem rd_prog_6_method_4_code_2 : prog_6_method_4_code.data.toList.drop 64 = rb_prog_6_method_4_code_2 := dst 32 rd_prog_6_method_4_code_1 rfl
noncomputable def rb_prog_6_method_5_code_5 : List UInt8 := 0 :: 60 :: 181 :: 0 :: 60 :: 42 :: 28 :: 16 :: 8 :: 126 :: 153 :: 0 :: 7 :: 3 :: 167 :: 0 :: 7 :: 43 :: 180 :: 0 :: 63 :: 181 :: 0 :: 63 :: 42 :: 182 :: 0 :: 76 :: 177 :: []
noncomputable def rb_prog_6_method_5_code_4 : List UInt8 := 7 :: 126 :: 153 :: 0 :: 8 :: 16 :: 247 :: 167 :: 0 :: 7 :: 43 :: 180 :: 0 :: 57 :: 181 :: 0 :: 57 :: 42 :: 28 :: 16 :: 8 :: 126 :: 153 :: 0 :: 8 :: 16 :: 247 :: 167 :: 0 :: 7 :: 43 :: 180 :: rb_prog_6_method_5_code_5
noncomputable def rb_prog_6_method_5_code_3 : List UInt8 := 247 :: 167 :: 0 :: 7 :: 43 :: 180 :: 0 :: 51 :: 181 :: 0 :: 51 :: 42 :: 28 :: 5 :: 126 :: 153 :: 0 :: 8 :: 16 :: 247 :: 167 :: 0 :: 7 :: 43 :: 180 :: 0 :: 54 :: 181 :: 0 :: 54 :: 42 :: 28 :: rb_prog_6_method_5_code_4
noncomputable def rb_prog_6_method_5_code_2 : List UInt8 := 180 :: 0 :: 21 :: 3 :: 6 :: 184 :: 0 :: 70 :: 42 :: 43 :: 180 :: 0 :: 45 :: 181 :: 0 :: 45 :: 42 :: 43 :: 180 :: 0 :: 48 :: 181 :: 0 :: 48 :: 42 :: 28 :: 4 :: 126 :: 153 :: 0 :: 8 :: 16 :: rb_prog_6_method_5_code_3
noncomputable def rb_prog_6_method_5_code_1 : List UInt8 := 0 :: 15 :: 3 :: 42 :: 180 :: 0 :: 15 :: 3 :: 8 :: 184 :: 0 :: 70 :: 43 :: 180 :: 0 :: 18 :: 3 :: 42 :: 180 :: 0 :: 18 :: 3 :: 6 :: 184 :: 0 :: 70 :: 43 :: 180 :: 0 :: 21 :: 3 :: 42 :: rb_prog_6_method_5_code_2
noncomputable def rb_prog_6_method_5_code_0 : List UInt8 := 42 :: 43 :: 180 :: 0 :: 32 :: 181 :: 0 :: 32 :: 42 :: 43 :: 180 :: 0 :: 36 :: 181 :: 0 :: 36 :: 43 :: 180 :: 0 :: 9 :: 3 :: 42 :: 180 :: 0 :: 9 :: 3 :: 8 :: 184 :: 0 :: 70 :: 43 :: 180 :: rb_prog_6_method_5_code_1
theorem rd_prog_6_method_5_code_0 : prog_6_method_5_code.data.toList.drop 0 = rb_prog_6_method_5_code_0 := by decide +kernel
theorem rd_prog_6_method_5_code_1 : prog_6_method_5_code.data.toList.drop 32 = rb_prog_6_method_5_code_1 := dst 32 rd_prog_6_method_5_code_0 rfl
theorem rd_prog_6_method_5_code_2 : prog_6_method_5_code.data.toList.drop 64 = rb_prog_6_method_5_code_2 := dst 32 rd_prog_6_method_5_code_1 rfl
theorem rd_prog_6_method_5_code_3 : prog_6_method_5_code.data.toList.drop 96 = rb_prog_6_method_5_code_3 := dst 32 rd_prog_6_method_5_code_2 rfl
theorem rd_prog_6_method_5_code_4 : prog_6_method_5_code.data.toList.drop 128 = rb_prog_6_method_5_code_4 := dst 32 rd_prog_6_method_5_code_3 rfl
theorem rd_prog_6_method_5_code_5 : prog_6_method_5_code.data.toList.drop 160 = rb_prog_6_method_5_code_5 := dst 32 rd_prog_6_method_5_code_4 rfl
noncomputable def rb_prog_6_method_6_code_3 : List UInt8 := 1 :: 167 :: 255 :: 169 :: 177 :: []
noncomputable def rb_prog_6_method_6_code_2 : List UInt8 := 54 :: 7 :: 42 :: 180 :: 0 :: 26 :: 27 :: 16 :: 15 :: 104 :: 21 :: 7 :: 96 :: 92 :: 46 :: 42 :: 28 :: 21 :: 6 :: 182 :: 0 :: 94 :: 96 :: 79 :: 132 :: 5 :: 1 :: 167 :: 255 :: 198 :: 132 :: 1 :: rb_prog_6_method_6_code_3
noncomputable def rb_prog_6_method_6_code_1 : List UInt8 := 5 :: 21 :: 5 :: 21 :: 4 :: 162 :: 0 :: 57 :: 45 :: 21 :: 5 :: 46 :: 54 :: 6 :: 28 :: 21 :: 6 :: 184 :: 0 :: 82 :: 153 :: 0 :: 36 :: 28 :: 21 :: 6 :: 184 :: 0 :: 86 :: 184 :: 0 :: 90 :: rb_prog_6_method_6_code_2
noncomputable def rb_prog_6_method_6_code_0 : List UInt8 := 42 :: 180 :: 0 :: 26 :: 3 :: 184 :: 0 :: 39 :: 3 :: 60 :: 27 :: 16 :: 35 :: 162 :: 0 :: 87 :: 178 :: 0 :: 79 :: 27 :: 46 :: 61 :: 178 :: 0 :: 79 :: 78 :: 45 :: 190 :: 54 :: 4 :: 3 :: 54 :: rb_prog_6_method_6_code_1
theorem rd_prog_6_method_6_code_0 : prog_6_method_6_code.data.toList.drop 0 = rb_prog_6_method_6_code_0 := by decide +kernel
theorem rd_prog_6_method_6_code_1 : prog_6_method_6_code.data.toList.drop 32 = rb_prog_6_method_6_code_1 := dst 32 rd_prog_6_method_6_code_0 rfl
theorem rd_prog_6_method_6_code_2 : prog_6_method_6_code.data.toList.drop 64 = rb_prog_6_method_6_code_2 := dst 32 rd_prog_6_method_6_code_1 rfl
theorem rd_prog_6_method_6_code_3 : prog_6_method_6_code.data.toList.drop 96 = rb_prog_6_method_6_code_3 := dst 32 rd_prog_6_method_6_code_2 rfl
noncomputable def rb_prog_6_method_7_code_0 : List UInt8 := 3 :: 42 :: 180 :: 0 :: 18 :: 27 :: 46 :: 42 :: 180 :: 0 :: 63 :: 100 :: 184 :: 0 :: 97 :: 172 :: []
theorem rd_prog_6_method_7_code_0 : prog_6_method_7_code.data.toList.drop 0 = rb_prog_6_method_7_code_0 := by decide +kernel
noncomputable def rb_prog_6_method_8_code_3 : List UInt8 := 104 :: 62 :: 132 :: 4 :: 1 :: 167 :: 255 :: 180 :: 29 :: 172 :: []
noncomputable def rb_prog_6_method_8_code_2 : List UInt8 := 6 :: 96 :: 46 :: 178 :: 0 :: 102 :: 8 :: 21 :: 7 :: 104 :: 21 :: 6 :: 96 :: 46 :: 104 :: 178 :: 0 :: 102 :: 8 :: 8 :: 21 :: 7 :: 100 :: 104 :: 21 :: 5 :: 96 :: 21 :: 6 :: 100 :: 46 :: 104 :: rb_prog_6_method_8_code_3
noncomputable def rb_prog_6_method_8_code_1 : List UInt8 := 21 :: 4 :: 184 :: 0 :: 108 :: 54 :: 5 :: 28 :: 21 :: 4 :: 184 :: 0 :: 108 :: 54 :: 6 :: 42 :: 21 :: 4 :: 182 :: 0 :: 111 :: 54 :: 7 :: 29 :: 178 :: 0 :: 114 :: 8 :: 21 :: 5 :: 104 :: 21 :: rb_prog_6_method_8_code_2
noncomputable def rb_prog_6_method_8_code_0 : List UInt8 := 27 :: 28 :: 184 :: 0 :: 82 :: 154 :: 0 :: 5 :: 3 :: 172 :: 178 :: 0 :: 102 :: 16 :: 29 :: 27 :: 184 :: 0 :: 105 :: 100 :: 46 :: 62 :: 3 :: 54 :: 4 :: 21 :: 4 :: 6 :: 162 :: 0 :: 76 :: 27 :: rb_prog_6_method_8_code_1
theorem rd_prog_6_method_8_code_0 : prog_6_method_8_code.data.toList.drop 0 = rb_prog_6_method_8_code_0 := by decide +kernel
theorem rd_prog_6_method_8_code_1 : prog_6_method_8_code.data.toList.drop 32 = rb_prog_6_method_8_code_1 := dst 32 rd_prog_6_method_8_code_0 rfl
theorem rd_prog_6_method_8_code_2 : prog_6_method_8_code.data.toList.drop 64 = rb_prog_6_method_8_code_2 := dst 32 rd_prog_6_method_8_code_1 rfl
theorem rd_prog_6_method_8_code_3 : prog_6_method_8_code.data.toList.drop 96 = rb_prog_6_method_8_code_3 := dst 32 rd_prog_6_method_8_code_2 rfl
noncomputable def rb_prog_6_method_9_code_0 : List UInt8 := 28 :: 7 :: 184 :: 0 :: 117 :: 153 :: 0 :: 9 :: 28 :: 16 :: 100 :: 161 :: 0 :: 5 :: 3 :: 172 :: 42 :: 27 :: 184 :: 0 :: 90 :: 28 :: 184 :: 0 :: 90 :: 182 :: 0 :: 120 :: 172 :: []
theorem rd_prog_6_method_9_code_0 : prog_6_method_9_code.data.toList.drop 0 = rb_prog_6_method_9_code_0 := by decide +kernel
noncomputable def rb_prog_6_method_10_code_0 : List UInt8 := 42 :: 180 :: 0 :: 26 :: 27 :: 16 :: 15 :: 104 :: 28 :: 96 :: 46 :: 172 :: []
theorem rd_prog_6_method_10_code_0 : prog_6_method_10_code.data.toList.drop 0 = rb_prog_6_method_10_code_0 := by decide +kernel
noncomputable def rb_prog_6_method_11_code_0 : List UInt8 := 42 :: 180 :: 0 :: 57 :: 16 :: 247 :: 160 :: 0 :: 7 :: 3 :: 167 :: 0 :: 4 :: 5 :: 172 :: []
theorem rd_prog_6_method_11_code_0 : prog_6_method_11_code.data.toList.drop 0 = rb_prog_6_method_11_code_0 := by decide +kernel
noncomputable def rb_prog_6_method_12_code_0 : List UInt8 := 27 :: 42 :: 180 :: 0 :: 32 :: 4 :: 100 :: 160 :: 0 :: 7 :: 3 :: 167 :: 0 :: 7 :: 42 :: 182 :: 0 :: 123 :: 172 :: []
theorem rd_prog_6_method_12_code_0 : prog_6_method_12_code.data.toList.drop 0 = rb_prog_6_method_12_code_0 := by decide +kernel
noncomputable def rb_prog_6_method_13_code_0 : List UInt8 := 42 :: 180 :: 0 :: 51 :: 16 :: 247 :: 160 :: 0 :: 7 :: 3 :: 167 :: 0 :: 7 :: 27 :: 184 :: 0 :: 105 :: 172 :: []
theorem rd_prog_6_method_13_code_0 : prog_6_method_13_code.data.toList.drop 0 = rb_prog_6_method_13_code_0 := by decide +kernel
noncomputable def rb_prog_6_method_14_code_0 : List UInt8 := 42 :: 180 :: 0 :: 15 :: 27 :: 46 :: 42 :: 180 :: 0 :: 36 :: 28 :: 184 :: 0 :: 105 :: 100 :: 184 :: 0 :: 127 :: 172 :: []
theorem rd_prog_6_method_14_code_0 : prog_6_method_14_code.data.toList.drop 0 = rb_prog_6_method_14_code_0 := by decide +kernel
noncomputable def rb_prog_6_method_15_code_0 : List UInt8 := 42 :: 180 :: 0 :: 54 :: 16 :: 247 :: 159 :: 0 :: 23 :: 27 :: 3 :: 184 :: 0 :: 108 :: 158 :: 0 :: 15 :: 27 :: 5 :: 184 :: 0 :: 108 :: 158 :: 0 :: 7 :: 4 :: 167 :: 0 :: 4 :: 3 :: 172 :: []
theorem rd_prog_6_method_15_code_0 : prog_6_method_15_code.data.toList.drop 0 = rb_prog_6_method_15_code_0 := by decide +kernel
noncomputable def rb_prog_6_method_16_code_2 : List UInt8 := 153 :: 42 :: 27 :: 182 :: 0 :: 156 :: 163 :: 0 :: 7 :: 4 :: 167 :: 0 :: 4 :: 3 :: 172 :: []
noncomputable def rb_prog_6_method_16_code_1 : List UInt8 := 182 :: 0 :: 144 :: 164 :: 0 :: 5 :: 3 :: 172 :: 29 :: 184 :: 0 :: 147 :: 42 :: 21 :: 4 :: 16 :: 100 :: 29 :: 184 :: 0 :: 141 :: 104 :: 96 :: 182 :: 0 :: 150 :: 163 :: 0 :: 19 :: 29 :: 184 :: 0 :: rb_prog_6_method_16_code_2
noncomputable def rb_prog_6_method_16_code_0 : List UInt8 := 29 :: 184 :: 0 :: 130 :: 42 :: 28 :: 182 :: 0 :: 135 :: 164 :: 0 :: 5 :: 3 :: 172 :: 28 :: 29 :: 184 :: 0 :: 130 :: 184 :: 0 :: 138 :: 54 :: 4 :: 29 :: 184 :: 0 :: 141 :: 42 :: 27 :: 21 :: 4 :: rb_prog_6_method_16_code_1
theorem rd_prog_6_method_16_code_0 : prog_6_method_16_code.data.toList.drop 0 = rb_prog_6_method_16_code_0 := by decide +kernel
theorem rd_prog_6_method_16_code_1 : prog_6_method_16_code.data.toList.drop 32 = rb_prog_6_method_16_code_1 := dst 32 rd_prog_6_method_16_code_0 rfl
theorem rd_prog_6_method_16_code_2 : prog_6_method_16_code.data.toList.drop 64 = rb_prog_6_method_16_code_2 := dst 32 rd_prog_6_method_16_code_1 rfl
noncomputable def rb_prog_6_method_17_code_0 : List UInt8 := 42 :: 27 :: 28 :: 182 :: 0 :: 144 :: 3 :: 29 :: 28 :: 184 :: 0 :: 105 :: 100 :: 184 :: 0 :: 97 :: 184 :: 0 :: 127 :: 172 :: []
theorem rd_prog_6_method_17_code_0 : prog_6_method_17_code.data.toList.drop 0 = rb_prog_6_method_17_code_0 := by decide +kernel
noncomputable def rb_prog_6_method_18_code_1 : List UInt8 := 21 :: 4 :: 46 :: 28 :: 16 :: 10 :: 108 :: 16 :: 10 :: 112 :: 104 :: 100 :: 42 :: 180 :: 0 :: 21 :: 5 :: 46 :: 21 :: 5 :: 104 :: 100 :: 172 :: []
noncomputable def rb_prog_6_method_18_code_0 : List UInt8 := 28 :: 16 :: 10 :: 112 :: 29 :: 96 :: 21 :: 4 :: 100 :: 54 :: 5 :: 42 :: 180 :: 0 :: 9 :: 27 :: 46 :: 42 :: 180 :: 0 :: 21 :: 3 :: 46 :: 28 :: 16 :: 100 :: 108 :: 104 :: 100 :: 42 :: 180 :: 0 :: rb_prog_6_method_18_code_1
theorem rd_prog_6_method_18_code_0 : prog_6_method_18_code.data.toList.drop 0 = rb_prog_6_method_18_code_0 := by decide +kernel
theorem rd_prog_6_method_18_code_1 : prog_6_method_18_code.data.toList.drop 32 = rb_prog_6_method_18_code_1 := dst 32 rd_prog_6_method_18_code_0 rfl
noncomputable def rb_prog_6_method_19_code_3 : List UInt8 := 57 :: 29 :: 104 :: 96 :: 54 :: 6 :: 21 :: 6 :: 172 :: []
noncomputable def rb_prog_6_method_19_code_2 : List UInt8 := 54 :: 16 :: 247 :: 159 :: 0 :: 15 :: 21 :: 6 :: 42 :: 180 :: 0 :: 54 :: 21 :: 5 :: 104 :: 96 :: 54 :: 6 :: 42 :: 180 :: 0 :: 57 :: 16 :: 247 :: 159 :: 0 :: 14 :: 21 :: 6 :: 42 :: 180 :: 0 :: rb_prog_6_method_19_code_3
noncomputable def rb_prog_6_method_19_code_1 : List UInt8 := 97 :: 104 :: 96 :: 54 :: 6 :: 42 :: 180 :: 0 :: 51 :: 16 :: 247 :: 159 :: 0 :: 18 :: 21 :: 6 :: 42 :: 180 :: 0 :: 51 :: 21 :: 4 :: 184 :: 0 :: 130 :: 104 :: 96 :: 54 :: 6 :: 42 :: 180 :: 0 :: rb_prog_6_method_19_code_2
noncomputable def rb_prog_6_method_19_code_0 : List UInt8 := 21 :: 4 :: 184 :: 0 :: 147 :: 54 :: 5 :: 42 :: 180 :: 0 :: 45 :: 28 :: 184 :: 0 :: 105 :: 104 :: 42 :: 180 :: 0 :: 48 :: 3 :: 42 :: 27 :: 28 :: 29 :: 21 :: 5 :: 182 :: 0 :: 159 :: 184 :: 0 :: rb_prog_6_method_19_code_1
theorem rd_prog_6_method_19_code_0 : prog_6_method_19_code.data.toList.drop 0 = rb_prog_6_method_19_code_0 := by decide +kernel
theorem rd_prog_6_method_19_code_1 : prog_6_method_19_code.data.toList.drop 32 = rb_prog_6_method_19_code_1 := dst 32 rd_prog_6_method_19_code_0 rfl
theorem rd_prog_6_method_19_code_2 : prog_6_method_19_code.data.toList.drop 64 = rb_prog_6_method_19_code_2 := dst 32 rd_prog_6_method_19_code_1 rfl
theorem rd_prog_6_method_19_code_3 : prog_6_method_19_code.data.toList.drop 96 = rb_prog_6_method_19_code_3 := dst 32 rd_prog_6_method_19_code_2 rfl
noncomputable def rb_prog_6_method_20_code_0 : List UInt8 := 42 :: 180 :: 0 :: 60 :: 16 :: 247 :: 160 :: 0 :: 7 :: 3 :: 167 :: 0 :: 12 :: 42 :: 180 :: 0 :: 60 :: 27 :: 184 :: 0 :: 105 :: 104 :: 172 :: []
theorem rd_prog_6_method_20_code_0 : prog_6_method_20_code.data.toList.drop 0 = rb_prog_6_method_20_code_0 := by decide +kernel
noncomputable def rb_prog_6_method_21_code_0 : List UInt8 := 3 :: 61 :: 3 :: 62 :: 29 :: 42 :: 180 :: 0 :: 32 :: 162 :: 0 :: 21 :: 29 :: 43 :: 190 :: 162 :: 0 :: 15 :: 28 :: 43 :: 29 :: 46 :: 96 :: 61 :: 132 :: 3 :: 1 :: 167 :: 255 :: 233 :: 28 :: 172 :: []
theorem rd_prog_6_method_21_code_0 : prog_6_method_21_code.data.toList.drop 0 = rb_prog_6_method_21_code_0 := by decide +kernel
noncomputable def rb_prog_7_method_1_code_0 : List UInt8 := 42 :: 183 :: 0 :: 3 :: 42 :: 16 :: 26 :: 188 :: 10 :: 181 :: 0 :: 9 :: 42 :: 187 :: 0 :: 15 :: 89 :: 43 :: 183 :: 0 :: 17 :: 181 :: 0 :: 20 :: 177 :: []
theorem rd_prog_7_method_1_code_0 : prog_7_method_1_code.data.toList.drop 0 = rb_prog_7_method_1_code_0 := by decide +kernel
noncomputable def rb_prog_7_method_2_code_1 : List UInt8 := 0 :: 14 :: 42 :: 43 :: 182 :: 0 :: 42 :: 132 :: 2 :: 1 :: 167 :: 255 :: 232 :: 42 :: 180 :: 0 :: 20 :: 182 :: 0 :: 45 :: 172 :: []
noncomputable def rb_prog_7_method_2_code_0 : List UInt8 := 42 :: 180 :: 0 :: 20 :: 182 :: 0 :: 24 :: 43 :: 182 :: 0 :: 27 :: 42 :: 43 :: 182 :: 0 :: 32 :: 3 :: 61 :: 28 :: 16 :: 64 :: 162 :: 0 :: 24 :: 42 :: 180 :: 0 :: 20 :: 182 :: 0 :: 38 :: 153 :: rb_prog_7_method_2_code_1
theorem rd_prog_7_method_2_code_0 : prog_7_method_2_code.data.toList.drop 0 = rb_prog_7_method_2_code_0 := by decide +kernel
theorem rd_prog_7_method_2_code_1 : prog_7_method_2_code.data.toList.drop 32 = rb_prog_7_method_2_code_1 := dst 32 rd_prog_7_method_2_code_0 rfl
noncomputable def rb_prog_7_method_3_code_1 : List UInt8 := 8 :: 184 :: 0 :: 58 :: 182 :: 0 :: 62 :: 61 :: 28 :: 16 :: 247 :: 160 :: 0 :: 4 :: 177 :: 43 :: 28 :: 181 :: 0 :: 66 :: 42 :: 28 :: 182 :: 0 :: 70 :: 177 :: []
noncomputable def rb_prog_7_method_3_code_0 : List UInt8 := 42 :: 180 :: 0 :: 20 :: 182 :: 0 :: 49 :: 16 :: 78 :: 159 :: 0 :: 11 :: 42 :: 180 :: 0 :: 20 :: 182 :: 0 :: 52 :: 177 :: 42 :: 180 :: 0 :: 20 :: 182 :: 0 :: 55 :: 42 :: 180 :: 0 :: 20 :: 4 :: rb_prog_7_method_3_code_1
theorem rd_prog_7_method_3_code_0 : prog_7_method_3_code.data.toList.drop 0 = rb_prog_7_method_3_code_0 := by decide +kernel
theorem rd_prog_7_method_3_code_1 : prog_7_method_3_code.data.toList.drop 32 = rb_prog_7_method_3_code_1 := dst 32 rd_prog_7_method_3_code_0 rfl
noncomputable def rb_prog_7_method_4_code_0 : List UInt8 := 42 :: 18 :: 74 :: 3 :: 182 :: 0 :: 76 :: 42 :: 18 :: 80 :: 27 :: 4 :: 100 :: 182 :: 0 :: 76 :: 42 :: 18 :: 82 :: 5 :: 182 :: 0 :: 76 :: 177 :: []
theorem rd_prog_7_method_4_code_0 : prog_7_method_4_code.data.toList.drop 0 = rb_prog_7_method_4_code_0 := by decide +kernel
noncomputable def rb_prog_7_method_5_code_1 : List UInt8 := 255 :: 227 :: 177 :: []
noncomputable def rb_prog_7_method_5_code_0 : List UInt8 := 3 :: 62 :: 29 :: 43 :: 182 :: 0 :: 84 :: 162 :: 0 :: 27 :: 42 :: 180 :: 0 :: 9 :: 43 :: 29 :: 182 :: 0 :: 89 :: 16 :: 65 :: 100 :: 3 :: 28 :: 184 :: 0 :: 58 :: 79 :: 132 :: 3 :: 1 :: 167 :: rb_prog_7_method_5_code_1
theorem rd_prog_7_method_5_code_0 : prog_7_method_5_code.data.toList.drop 0 = rb_prog_7_method_5_code_0 := by decide +kernel
theorem rd_prog_7_method_5_code_1 : prog_7_method_5_code.data.toList.drop 32 = rb_prog_7_method_5_code_1 := dst 32 rd_prog_7_method_5_code_0 rfl
noncomputable def rb_prog_7_method_6_code_5 : List UInt8 := 0 :: 106 :: 177 :: []
noncomputable def rb_prog_7_method_6_code_4 : List UInt8 := 180 :: 0 :: 20 :: 28 :: 184 :: 0 :: 103 :: 182 :: 0 :: 62 :: 167 :: 0 :: 4 :: 3 :: 54 :: 5 :: 21 :: 5 :: 16 :: 247 :: 160 :: 0 :: 4 :: 177 :: 43 :: 28 :: 29 :: 21 :: 4 :: 21 :: 5 :: 182 :: rb_prog_7_method_6_code_5
noncomputable def rb_prog_7_method_6_code_3 : List UInt8 := 130 :: 126 :: 79 :: 42 :: 180 :: 0 :: 20 :: 28 :: 184 :: 0 :: 97 :: 182 :: 0 :: 62 :: 54 :: 4 :: 21 :: 4 :: 16 :: 247 :: 160 :: 0 :: 4 :: 177 :: 28 :: 184 :: 0 :: 100 :: 153 :: 0 :: 17 :: 42 :: rb_prog_7_method_6_code_4
noncomputable def rb_prog_7_method_6_code_2 : List UInt8 := 65 :: 100 :: 46 :: 182 :: 0 :: 62 :: 167 :: 0 :: 4 :: 3 :: 62 :: 29 :: 16 :: 247 :: 160 :: 0 :: 4 :: 177 :: 42 :: 180 :: 0 :: 9 :: 28 :: 16 :: 65 :: 100 :: 92 :: 46 :: 4 :: 29 :: 120 :: 2 :: rb_prog_7_method_6_code_3
noncomputable def rb_prog_7_method_6_code_1 : List UInt8 := 42 :: 180 :: 0 :: 20 :: 182 :: 0 :: 52 :: 177 :: 42 :: 180 :: 0 :: 20 :: 182 :: 0 :: 55 :: 28 :: 184 :: 0 :: 93 :: 153 :: 0 :: 22 :: 42 :: 180 :: 0 :: 20 :: 42 :: 180 :: 0 :: 9 :: 28 :: 16 :: rb_prog_7_method_6_code_2
noncomputable def rb_prog_7_method_6_code_0 : List UInt8 := 42 :: 180 :: 0 :: 20 :: 182 :: 0 :: 49 :: 61 :: 28 :: 16 :: 65 :: 161 :: 0 :: 21 :: 28 :: 16 :: 90 :: 163 :: 0 :: 15 :: 42 :: 180 :: 0 :: 9 :: 28 :: 16 :: 65 :: 100 :: 46 :: 154 :: 0 :: 11 :: rb_prog_7_method_6_code_1
theorem rd_prog_7_method_6_code_0 : prog_7_method_6_code.data.toList.drop 0 = rb_prog_7_method_6_code_0 := by decide +kernel
theorem rd_prog_7_method_6_code_1 : prog_7_method_6_code.data.toList.drop 32 = rb_prog_7_method_6_code_1 := dst 32 rd_prog_7_method_6_code_0 rfl
theorem rd_prog_7_method_6_code_2 : prog_7_method_6_code.data.toList.drop 64 = rb_prog_7_method_6_code_2 := dst 32 rd_prog_7_method_6_code_1 rfl
theorem rd_prog_7_method_6_code_3 : prog_7_method_6_code.data.toList.drop 96 = rb_prog_7_method_6_code_3 := dst 32 rd_prog_7_method_6_code_2 rfl
theorem rd_prog_7_method_6_code_4 : prog_7_method_6_code.data.toList.drop 128 = rb_prog_7_method_6_code_4 := dst 32 rd_prog_7_method_6_code_3 rfl
theorem rd_prog_7_method_6_code_5 : prog_7_method_6_code.data.toList.drop 160 = rb_prog_7_method_6_code_5 := dst 32 rd_prog_7_method_6_code_4 rfl
noncomputable def rb_prog_7_method_7_code_0 : List UInt8 := 26 :: 16 :: 87 :: 159 :: 0 :: 21 :: 26 :: 16 :: 79 :: 159 :: 0 :: 15 :: 26 :: 16 :: 81 :: 159 :: 0 :: 9 :: 26 :: 16 :: 68 :: 160 :: 0 :: 7 :: 4 :: 167 :: 0 :: 4 :: 3 :: 172 :: []
theorem rd_prog_7_method_7_code_0 : prog_7_method_7_code.data.toList.drop 0 = rb_prog_7_method_7_code_0 := by decide +kernel
noncomputable def rb_prog_7_method_8_code_1 : List UInt8 := 0 :: 0 :: 0 :: 47 :: 4 :: 7 :: 184 :: 0 :: 58 :: 172 :: 3 :: 7 :: 184 :: 0 :: 58 :: 172 :: 3 :: 8 :: 184 :: 0 :: 58 :: 172 :: 3 :: 16 :: 9 :: 184 :: 0 :: 58 :: 172 :: []
noncomputable def rb_prog_7_method_8_code_0 : List UInt8 := 26 :: 171 :: 0 :: 0 :: 0 :: 0 :: 0 :: 53 :: 0 :: 0 :: 0 :: 3 :: 0 :: 0 :: 0 :: 72 :: 0 :: 0 :: 0 :: 35 :: 0 :: 0 :: 0 :: 79 :: 0 :: 0 :: 0 :: 41 :: 0 :: 0 :: 0 :: 81 :: rb_prog_7_method_8_code_1
theorem rd_prog_7_method_8_code_0 : prog_7_method_8_code.data.toList.drop 0 = rb_prog_7_method_8_code_0 := by decide +kernel
theorem rd_prog_7_method_8_code_1 : prog_7_method_8_code.data.toList.drop 32 = rb_prog_7_method_8_code_1 := dst 32 rd_prog_7_method_8_code_0 rfl
noncomputable def rb_prog_7_method_9_code_0 : List UInt8 := 26 :: 16 :: 87 :: 159 :: 0 :: 9 :: 26 :: 16 :: 66 :: 160 :: 0 :: 7 :: 4 :: 167 :: 0 :: 4 :: 3 :: 172 :: []
theorem rd_prog_7_method_9_code_0 : prog_7_method_9_code.data.toList.drop 0 = rb_prog_7_method_9_code_0 := by decide +kernel
noncomputable def rb_prog_7_method_10_code_0 : List UInt8 := 3 :: 26 :: 16 :: 66 :: 160 :: 0 :: 7 :: 8 :: 167 :: 0 :: 5 :: 16 :: 9 :: 184 :: 0 :: 58 :: 172 :: []
theorem rd_prog_7_method_10_code_0 : prog_7_method_10_code.data.toList.drop 0 = rb_prog_7_method_10_code_0 := by decide +kernel
noncomputable def rb_prog_8_method_1_code_1 : List UInt8 := 35 :: 188 :: 10 :: 181 :: 0 :: 24 :: 177 :: []
noncomputable def rb_prog_8_method_1_code_0 : List UInt8 := 42 :: 183 :: 0 :: 3 :: 42 :: 17 :: 2 :: 118 :: 188 :: 11 :: 181 :: 0 :: 13 :: 42 :: 17 :: 2 :: 13 :: 188 :: 10 :: 181 :: 0 :: 17 :: 42 :: 16 :: 35 :: 188 :: 11 :: 181 :: 0 :: 21 :: 42 :: 16 :: rb_prog_8_method_1_code_1
theorem rd_prog_8_method_1_code_0 : prog_8_method_1_code.data.toList.drop 0 = rb_prog_8_method_1_code_0 := by decide +kernel
theorem rd_prog_8_method_1_code_1 : prog_8_method_1_code.data.toList.drop 32 = rb_prog_8_method_1_code_1 := dst 32 rd_prog_8_method_1_code_0 rfl
noncomputable def rb_prog_8_method_2_code_0 : List UInt8 := 26 :: 6 :: 104 :: 28 :: 96 :: 16 :: 35 :: 104 :: 27 :: 96 :: 172 :: []
theorem rd_prog_8_method_2_code_0 : prog_8_method_2_code.data.toList.drop 0 = rb_prog_8_method_2_code_0 := by decide +kernel
noncomputable def rb_prog_8_method_3_code_0 : List UInt8 := 42 :: 180 :: 0 :: 13 :: 27 :: 28 :: 184 :: 0 :: 27 :: 29 :: 184 :: 0 :: 31 :: 47 :: 173 :: []
theorem rd_prog_8_method_3_code_0 : prog_8_method_3_code.data.toList.drop 0 = rb_prog_8_method_3_code_0 := by decide +kernel
noncomputable def rb_prog_8_method_4_code_0 : List UInt8 := 42 :: 180 :: 0 :: 17 :: 27 :: 28 :: 184 :: 0 :: 27 :: 29 :: 184 :: 0 :: 31 :: 46 :: 172 :: []
theorem rd_prog_8_method_4_code_0 : prog_8_method_4_code.data.toList.drop 0 = rb_prog_8_method_4_code_0 := by decide +kernel
noncomputable def rb_prog_8_method_5_code_0 : List UInt8 := 178 :: 0 :: 35 :: 42 :: 180 :: 0 :: 38 :: 27 :: 100 :: 47 :: 173 :: []
theorem rd_prog_8_method_5_code_0 : prog_8_method_5_code.data.toList.drop 0 = rb_prog_8_method_5_code_0 := by decide +kernel
noncomputable def rb_prog_8_method_6_code_2 : List UInt8 := 43 :: 28 :: 182 :: 0 :: 55 :: 132 :: 2 :: 255 :: 167 :: 255 :: 237 :: 177 :: []
noncomputable def rb_prog_8_method_6_code_1 : List UInt8 := 45 :: 28 :: 46 :: 182 :: 0 :: 48 :: 133 :: 80 :: 132 :: 2 :: 1 :: 167 :: 255 :: 223 :: 42 :: 180 :: 0 :: 38 :: 4 :: 100 :: 61 :: 28 :: 155 :: 0 :: 21 :: 42 :: 43 :: 28 :: 182 :: 0 :: 51 :: 42 :: rb_prog_8_method_6_code_2
noncomputable def rb_prog_8_method_6_code_0 : List UInt8 := 42 :: 43 :: 180 :: 0 :: 42 :: 181 :: 0 :: 38 :: 3 :: 61 :: 28 :: 16 :: 35 :: 162 :: 0 :: 33 :: 42 :: 180 :: 0 :: 13 :: 42 :: 180 :: 0 :: 38 :: 28 :: 3 :: 184 :: 0 :: 31 :: 43 :: 178 :: 0 :: rb_prog_8_method_6_code_1
theorem rd_prog_8_method_6_code_0 : prog_8_method_6_code.data.toList.drop 0 = rb_prog_8_method_6_code_0 := by decide +kernel
theorem rd_prog_8_method_6_code_1 : prog_8_method_6_code.data.toList.drop 32 = rb_prog_8_method_6_code_1 := dst 32 rd_prog_8_method_6_code_0 rfl
theorem rd_prog_8_method_6_code_2 : prog_8_method_6_code.data.toList.drop 64 = rb_prog_8_method_6_code_2 := dst 32 rd_prog_8_method_6_code_1 rfl
noncomputable def rb_prog_8_method_7_code_3 : List UInt8 := 1 :: 167 :: 255 :: 197 :: 132 :: 4 :: 1 :: 167 :: 255 :: 162 :: 177 :: []
noncomputable def rb_prog_8_method_7_code_2 : List UInt8 := 6 :: 42 :: 180 :: 0 :: 21 :: 21 :: 4 :: 47 :: 148 :: 156 :: 0 :: 21 :: 42 :: 180 :: 0 :: 21 :: 21 :: 4 :: 22 :: 6 :: 80 :: 42 :: 180 :: 0 :: 24 :: 21 :: 4 :: 21 :: 5 :: 79 :: 132 :: 5 :: rb_prog_8_method_7_code_3
noncomputable def rb_prog_8_method_7_code_1 : List UInt8 := 167 :: 0 :: 68 :: 3 :: 54 :: 5 :: 21 :: 5 :: 29 :: 163 :: 0 :: 59 :: 42 :: 43 :: 21 :: 4 :: 28 :: 4 :: 96 :: 21 :: 5 :: 182 :: 0 :: 67 :: 55 :: 6 :: 21 :: 5 :: 153 :: 0 :: 16 :: 22 :: rb_prog_8_method_7_code_2
noncomputable def rb_prog_8_method_7_code_0 : List UInt8 := 43 :: 28 :: 182 :: 0 :: 58 :: 62 :: 3 :: 54 :: 4 :: 21 :: 4 :: 16 :: 35 :: 162 :: 0 :: 93 :: 178 :: 0 :: 45 :: 21 :: 4 :: 46 :: 184 :: 0 :: 61 :: 43 :: 180 :: 0 :: 64 :: 164 :: 0 :: 6 :: rb_prog_8_method_7_code_1
theorem rd_prog_8_method_7_code_0 : prog_8_method_7_code.data.toList.drop 0 = rb_prog_8_method_7_code_0 := by decide +kernel
theorem rd_prog_8_method_7_code_1 : prog_8_method_7_code.data.toList.drop 32 = rb_prog_8_method_7_code_1 := dst 32 rd_prog_8_method_7_code_0 rfl
theorem rd_prog_8_method_7_code_2 : prog_8_method_7_code.data.toList.drop 64 = rb_prog_8_method_7_code_2 := dst 32 rd_prog_8_method_7_code_1 rfl
theorem rd_prog_8_method_7_code_3 : prog_8_method_7_code.data.toList.drop 96 = rb_prog_8_method_7_code_3 := dst 32 rd_prog_8_method_7_code_2 rfl
noncomputable def rb_prog_8_method_8_code_1 : List UInt8 := 184 :: 0 :: 31 :: 47 :: 105 :: 97 :: 55 :: 5 :: 132 :: 7 :: 1 :: 167 :: 255 :: 219 :: 22 :: 5 :: 173 :: []
noncomputable def rb_prog_8_method_8_code_0 : List UInt8 := 9 :: 55 :: 5 :: 3 :: 54 :: 7 :: 21 :: 7 :: 16 :: 15 :: 162 :: 0 :: 36 :: 22 :: 5 :: 43 :: 28 :: 21 :: 7 :: 182 :: 0 :: 71 :: 133 :: 42 :: 180 :: 0 :: 13 :: 29 :: 21 :: 7 :: 21 :: 4 :: rb_prog_8_method_8_code_1
theorem rd_prog_8_method_8_code_0 : prog_8_method_8_code.data.toList.drop 0 = rb_prog_8_method_8_code_0 := by decide +kernel
theorem rd_prog_8_method_8_code_1 : prog_8_method_8_code.data.toList.drop 32 = rb_prog_8_method_8_code_1 := dst 32 rd_prog_8_method_8_code_0 rfl
noncomputable def rb_prog_8_method_9_code_2 : List UInt8 := 0 :: 79 :: 132 :: 8 :: 1 :: 167 :: 255 :: 237 :: 132 :: 6 :: 1 :: 167 :: 255 :: 199 :: 177 :: []
noncomputable def rb_prog_8_method_9_code_1 : List UInt8 := 21 :: 7 :: 184 :: 0 :: 61 :: 43 :: 180 :: 0 :: 64 :: 164 :: 0 :: 6 :: 167 :: 0 :: 28 :: 3 :: 54 :: 8 :: 21 :: 8 :: 29 :: 163 :: 0 :: 19 :: 42 :: 43 :: 28 :: 21 :: 7 :: 21 :: 8 :: 182 :: rb_prog_8_method_9_code_2
noncomputable def rb_prog_8_method_9_code_0 : List UInt8 := 43 :: 182 :: 0 :: 75 :: 62 :: 178 :: 0 :: 45 :: 58 :: 4 :: 25 :: 4 :: 190 :: 54 :: 5 :: 3 :: 54 :: 6 :: 21 :: 6 :: 21 :: 5 :: 162 :: 0 :: 56 :: 25 :: 4 :: 21 :: 6 :: 46 :: 54 :: 7 :: rb_prog_8_method_9_code_1
theorem rd_prog_8_method_9_code_0 : prog_8_method_9_code.data.toList.drop 0 = rb_prog_8_method_9_code_0 := by decide +kernel
theorem rd_prog_8_method_9_code_1 : prog_8_method_9_code.data.toList.drop 32 = rb_prog_8_method_9_code_1 := dst 32 rd_prog_8_method_9_code_0 rfl
theorem rd_prog_8_method_9_code_2 : prog_8_method_9_code.data.toList.drop 64 = rb_prog_8_method_9_code_2 := dst 32 rd_prog_8_method_9_code_1 rfl
noncomputable def rb_prog_8_method_10_code_6 : List UInt8 := 184 :: 0 :: 31 :: 54 :: 11 :: 42 :: 180 :: 0 :: 13 :: 21 :: 11 :: 22 :: 5 :: 80 :: 42 :: 180 :: 0 :: 17 :: 21 :: 11 :: 21 :: 7 :: 79 :: 177 :: []
noncomputable def rb_prog_8_method_10_code_5 : List UInt8 := 24 :: 21 :: 19 :: 46 :: 96 :: 54 :: 7 :: 132 :: 16 :: 1 :: 167 :: 255 :: 162 :: 132 :: 14 :: 1 :: 167 :: 255 :: 132 :: 132 :: 11 :: 1 :: 167 :: 255 :: 99 :: 28 :: 29 :: 184 :: 0 :: 27 :: 21 :: 4 :: rb_prog_8_method_10_code_6
noncomputable def rb_prog_8_method_10_code_4 : List UInt8 := 108 :: 133 :: 22 :: 8 :: 105 :: 42 :: 180 :: 0 :: 21 :: 21 :: 19 :: 47 :: 97 :: 55 :: 20 :: 22 :: 20 :: 22 :: 5 :: 148 :: 156 :: 0 :: 19 :: 22 :: 20 :: 55 :: 5 :: 21 :: 17 :: 42 :: 180 :: 0 :: rb_prog_8_method_10_code_5
noncomputable def rb_prog_8_method_10_code_3 : List UInt8 := 10 :: 21 :: 16 :: 104 :: 96 :: 54 :: 17 :: 29 :: 21 :: 17 :: 184 :: 0 :: 103 :: 54 :: 18 :: 21 :: 18 :: 184 :: 0 :: 27 :: 54 :: 19 :: 43 :: 28 :: 21 :: 18 :: 21 :: 4 :: 21 :: 17 :: 182 :: 0 :: rb_prog_8_method_10_code_4
noncomputable def rb_prog_8_method_10_code_2 : List UInt8 := 21 :: 14 :: 104 :: 96 :: 182 :: 0 :: 100 :: 54 :: 15 :: 3 :: 54 :: 16 :: 21 :: 16 :: 21 :: 15 :: 163 :: 0 :: 93 :: 17 :: 3 :: 232 :: 21 :: 11 :: 104 :: 16 :: 100 :: 21 :: 14 :: 104 :: 96 :: 16 :: rb_prog_8_method_10_code_3
noncomputable def rb_prog_8_method_10_code_1 : List UInt8 := 29 :: 21 :: 11 :: 184 :: 0 :: 94 :: 54 :: 12 :: 43 :: 28 :: 21 :: 12 :: 182 :: 0 :: 97 :: 54 :: 13 :: 3 :: 54 :: 14 :: 21 :: 14 :: 21 :: 13 :: 163 :: 0 :: 123 :: 43 :: 21 :: 12 :: 16 :: 100 :: rb_prog_8_method_10_code_2
noncomputable def rb_prog_8_method_10_code_0 : List UInt8 := 20 :: 0 :: 85 :: 55 :: 5 :: 3 :: 54 :: 7 :: 42 :: 28 :: 182 :: 0 :: 87 :: 55 :: 8 :: 43 :: 29 :: 182 :: 0 :: 91 :: 54 :: 10 :: 3 :: 54 :: 11 :: 21 :: 11 :: 21 :: 10 :: 163 :: 0 :: 156 :: rb_prog_8_method_10_code_1
theorem rd_prog_8_method_10_code_0 : prog_8_method_10_code.data.toList.drop 0 = rb_prog_8_method_10_code_0 := by decide +kernel
theorem rd_prog_8_method_10_code_1 : prog_8_method_10_code.data.toList.drop 32 = rb_prog_8_method_10_code_1 := dst 32 rd_prog_8_method_10_code_0 rfl
theorem rd_prog_8_method_10_code_2 : prog_8_method_10_code.data.toList.drop 64 = rb_prog_8_method_10_code_2 := dst 32 rd_prog_8_method_10_code_1 rfl
theorem rd_prog_8_method_10_code_3 : prog_8_method_10_code.data.toList.drop 96 = rb_prog_8_method_10_code_3 := dst 32 rd_prog_8_method_10_code_2 rfl
theorem rd_prog_8_method_10_code_4 : prog_8_method_10_code.data.toList.drop 128 = rb_prog_8_method_10_code_4 := dst 32 rd_prog_8_method_10_code_3 rfl
theorem rd_prog_8_method_10_code_5 : prog_8_method_10_code.data.toList.drop 160 = rb_prog_8_method_10_code_5 := dst 32 rd_prog_8_method_10_code_4 rfl
theorem rd_prog_8_method_10_code_6 : prog_8_method_10_code.data.toList.drop 192 = rb_prog_8_method_10_code_6 := dst 32 rd_prog_8_method_10_code_5 rfl
noncomputable def rb_prog_9_method_1_code_0 : List UInt8 := 42 :: 183 :: 0 :: 3 :: 42 :: 8 :: 188 :: 10 :: 181 :: 0 :: 9 :: 42 :: 8 :: 188 :: 10 :: 181 :: 0 :: 15 :: 42 :: 187 :: 0 :: 18 :: 89 :: 183 :: 0 :: 20 :: 181 :: 0 :: 21 :: 177 :: []
theorem rd_prog_9_method_1_code_0 : prog_9_method_1_code.data.toList.drop 0 = rb_prog_9_method_1_code_0 := by decide +kernel
noncomputable def rb_prog_9_method_2_code_0 : List UInt8 := 42 :: 180 :: 0 :: 9 :: 42 :: 180 :: 0 :: 25 :: 27 :: 79 :: 42 :: 180 :: 0 :: 15 :: 42 :: 180 :: 0 :: 25 :: 28 :: 79 :: 42 :: 89 :: 180 :: 0 :: 25 :: 4 :: 96 :: 181 :: 0 :: 25 :: 177 :: []
theorem rd_prog_9_method_2_code_0 : prog_9_method_2_code.data.toList.drop 0 = rb_prog_9_method_2_code_0 := by decide +kernel
noncomputable def rb_prog_9_method_3_code_2 : List UInt8 := 15 :: 28 :: 46 :: 182 :: 0 :: 48 :: 132 :: 2 :: 1 :: 167 :: 255 :: 219 :: 177 :: []
noncomputable def rb_prog_9_method_3_code_1 : List UInt8 := 0 :: 45 :: 3 :: 61 :: 28 :: 42 :: 180 :: 0 :: 25 :: 162 :: 0 :: 35 :: 42 :: 180 :: 0 :: 32 :: 16 :: 247 :: 160 :: 0 :: 26 :: 42 :: 43 :: 42 :: 180 :: 0 :: 9 :: 28 :: 46 :: 42 :: 180 :: 0 :: rb_prog_9_method_3_code_2
noncomputable def rb_prog_9_method_3_code_0 : List UInt8 := 42 :: 180 :: 0 :: 21 :: 182 :: 0 :: 29 :: 42 :: 16 :: 247 :: 181 :: 0 :: 32 :: 42 :: 16 :: 247 :: 181 :: 0 :: 35 :: 42 :: 3 :: 181 :: 0 :: 38 :: 42 :: 10 :: 181 :: 0 :: 41 :: 42 :: 10 :: 181 :: rb_prog_9_method_3_code_1
theorem rd_prog_9_method_3_code_0 : prog_9_method_3_code.data.toList.drop 0 = rb_prog_9_method_3_code_0 := by decide +kernel
theorem rd_prog_9_method_3_code_1 : prog_9_method_3_code.data.toList.drop 32 = rb_prog_9_method_3_code_1 := dst 32 rd_prog_9_method_3_code_0 rfl
theorem rd_prog_9_method_3_code_2 : prog_9_method_3_code.data.toList.drop 64 = rb_prog_9_method_3_code_2 := dst 32 rd_prog_9_method_3_code_1 rfl
noncomputable def rb_prog_9_method_4_code_4 : List UInt8 := 43 :: 180 :: 0 :: 87 :: 21 :: 5 :: 104 :: 182 :: 0 :: 90 :: 42 :: 180 :: 0 :: 21 :: 43 :: 29 :: 182 :: 0 :: 94 :: 177 :: []
noncomputable def rb_prog_9_method_4_code_3 : List UInt8 := 56 :: 42 :: 180 :: 0 :: 21 :: 180 :: 0 :: 63 :: 42 :: 180 :: 0 :: 21 :: 180 :: 0 :: 74 :: 28 :: 184 :: 0 :: 77 :: 182 :: 0 :: 83 :: 54 :: 5 :: 42 :: 42 :: 180 :: 0 :: 21 :: 180 :: 0 :: 56 :: rb_prog_9_method_4_code_4
noncomputable def rb_prog_9_method_4_code_2 : List UInt8 := 177 :: 42 :: 89 :: 180 :: 0 :: 41 :: 21 :: 4 :: 133 :: 105 :: 181 :: 0 :: 41 :: 42 :: 89 :: 180 :: 0 :: 45 :: 20 :: 0 :: 72 :: 105 :: 181 :: 0 :: 45 :: 43 :: 42 :: 180 :: 0 :: 21 :: 180 :: 0 :: rb_prog_9_method_4_code_3
noncomputable def rb_prog_9_method_4_code_1 : List UInt8 := 59 :: 87 :: 43 :: 42 :: 180 :: 0 :: 21 :: 180 :: 0 :: 63 :: 29 :: 182 :: 0 :: 66 :: 54 :: 4 :: 21 :: 4 :: 154 :: 0 :: 15 :: 42 :: 42 :: 180 :: 0 :: 21 :: 180 :: 0 :: 56 :: 181 :: 0 :: 32 :: rb_prog_9_method_4_code_2
noncomputable def rb_prog_9_method_4_code_0 : List UInt8 := 42 :: 180 :: 0 :: 21 :: 43 :: 28 :: 182 :: 0 :: 52 :: 154 :: 0 :: 15 :: 42 :: 42 :: 180 :: 0 :: 21 :: 180 :: 0 :: 56 :: 181 :: 0 :: 32 :: 177 :: 42 :: 180 :: 0 :: 21 :: 43 :: 28 :: 182 :: 0 :: rb_prog_9_method_4_code_1
theorem rd_prog_9_method_4_code_0 : prog_9_method_4_code.data.toList.drop 0 = rb_prog_9_method_4_code_0 := by decide +kernel
theorem rd_prog_9_method_4_code_1 : prog_9_method_4_code.data.toList.drop 32 = rb_prog_9_method_4_code_1 := dst 32 rd_prog_9_method_4_code_0 rfl
theorem rd_prog_9_method_4_code_2 : prog_9_method_4_code.data.toList.drop 64 = rb_prog_9_method_4_code_2 := dst 32 rd_prog_9_method_4_code_1 rfl
theorem rd_prog_9_method_4_code_3 : prog_9_method_4_code.data.toList.drop 96 = rb_prog_9_method_4_code_3 := dst 32 rd_prog_9_method_4_code_2 rfl
theorem rd_prog_9_method_4_code_4 : prog_9_method_4_code.data.toList.drop 128 = rb_prog_9_method_4_code_4 := dst 32 rd_prog_9_method_4_code_3 rfl
noncomputable def rb_prog_9_method_5_code_0 : List UInt8 := 28 :: 42 :: 180 :: 0 :: 38 :: 164 :: 0 :: 13 :: 42 :: 28 :: 181 :: 0 :: 38 :: 42 :: 27 :: 181 :: 0 :: 35 :: 177 :: []
theorem rd_prog_9_method_5_code_0 : prog_9_method_5_code.data.toList.drop 0 = rb_prog_9_method_5_code_0 := by decide +kernel
noncomputable def rb_prog_10_method_1_code_0 : List UInt8 := 42 :: 183 :: 0 :: 3 :: 42 :: 8 :: 188 :: 10 :: 181 :: 0 :: 9 :: 42 :: 187 :: 0 :: 15 :: 89 :: 43 :: 183 :: 0 :: 17 :: 181 :: 0 :: 20 :: 177 :: []
theorem rd_prog_10_method_1_code_0 : prog_10_method_1_code.data.toList.drop 0 = rb_prog_10_method_1_code_0 := by decide +kernel
noncomputable def rb_prog_10_method_2_code_2 : List UInt8 := 0 :: 49 :: 172 :: []
noncomputable def rb_prog_10_method_2_code_1 : List UInt8 := 25 :: 42 :: 180 :: 0 :: 20 :: 182 :: 0 :: 39 :: 16 :: 76 :: 159 :: 0 :: 13 :: 42 :: 182 :: 0 :: 43 :: 132 :: 1 :: 1 :: 167 :: 255 :: 222 :: 42 :: 182 :: 0 :: 46 :: 42 :: 180 :: 0 :: 20 :: 182 :: rb_prog_10_method_2_code_2
noncomputable def rb_prog_10_method_2_code_0 : List UInt8 := 42 :: 180 :: 0 :: 20 :: 182 :: 0 :: 24 :: 42 :: 3 :: 7 :: 184 :: 0 :: 27 :: 181 :: 0 :: 31 :: 3 :: 60 :: 27 :: 8 :: 162 :: 0 :: 35 :: 42 :: 180 :: 0 :: 20 :: 182 :: 0 :: 35 :: 153 :: 0 :: rb_prog_10_method_2_code_1
theorem rd_prog_10_method_2_code_0 : prog_10_method_2_code.data.toList.drop 0 = rb_prog_10_method_2_code_0 := by decide +kernel
theorem rd_prog_10_method_2_code_1 : prog_10_method_2_code.data.toList.drop 32 = rb_prog_10_method_2_code_1 := dst 32 rd_prog_10_method_2_code_0 rfl
theorem rd_prog_10_method_2_code_2 : prog_10_method_2_code.data.toList.drop 64 = rb_prog_10_method_2_code_2 := dst 32 rd_prog_10_method_2_code_1 rfl
noncomputable def rb_prog_10_method_3_code_1 : List UInt8 := 28 :: 16 :: 247 :: 160 :: 0 :: 4 :: 177 :: 42 :: 89 :: 180 :: 0 :: 31 :: 4 :: 27 :: 120 :: 2 :: 130 :: 126 :: 181 :: 0 :: 31 :: 42 :: 180 :: 0 :: 9 :: 27 :: 28 :: 79 :: 177 :: []
noncomputable def rb_prog_10_method_3_code_0 : List UInt8 := 42 :: 180 :: 0 :: 20 :: 42 :: 180 :: 0 :: 31 :: 182 :: 0 :: 52 :: 60 :: 27 :: 16 :: 247 :: 160 :: 0 :: 4 :: 177 :: 42 :: 180 :: 0 :: 20 :: 3 :: 7 :: 184 :: 0 :: 27 :: 182 :: 0 :: 52 :: 61 :: rb_prog_10_method_3_code_1
theorem rd_prog_10_method_3_code_0 : prog_10_method_3_code.data.toList.drop 0 = rb_prog_10_method_3_code_0 := by decide +kernel
theorem rd_prog_10_method_3_code_1 : prog_10_method_3_code.data.toList.drop 32 = rb_prog_10_method_3_code_1 := dst 32 rd_prog_10_method_3_code_0 rfl
noncomputable def rb_prog_10_method_4_code_2 : List UInt8 := 62 :: 42 :: 180 :: 0 :: 20 :: 182 :: 0 :: 35 :: 153 :: 0 :: 10 :: 42 :: 180 :: 0 :: 20 :: 182 :: 0 :: 56 :: 177 :: []
noncomputable def rb_prog_10_method_4_code_1 : List UInt8 := 177 :: 42 :: 180 :: 0 :: 20 :: 182 :: 0 :: 59 :: 42 :: 180 :: 0 :: 20 :: 3 :: 7 :: 184 :: 0 :: 27 :: 182 :: 0 :: 52 :: 60 :: 27 :: 16 :: 247 :: 160 :: 0 :: 4 :: 177 :: 42 :: 27 :: 181 :: 0 :: rb_prog_10_method_4_code_2
noncomputable def rb_prog_10_method_4_code_0 : List UInt8 := 42 :: 180 :: 0 :: 20 :: 182 :: 0 :: 49 :: 16 :: 247 :: 159 :: 0 :: 4 :: 177 :: 42 :: 180 :: 0 :: 20 :: 182 :: 0 :: 39 :: 16 :: 76 :: 159 :: 0 :: 11 :: 42 :: 180 :: 0 :: 20 :: 182 :: 0 :: 56 :: rb_prog_10_method_4_code_1
theorem rd_prog_10_method_4_code_0 : prog_10_method_4_code.data.toList.drop 0 = rb_prog_10_method_4_code_0 := by decide +kernel
theorem rd_prog_10_method_4_code_1 : prog_10_method_4_code.data.toList.drop 32 = rb_prog_10_method_4_code_1 := dst 32 rd_prog_10_method_4_code_0 rfl
theorem rd_prog_10_method_4_code_2 : prog_10_method_4_code.data.toList.drop 64 = rb_prog_10_method_4_code_2 := dst 32 rd_prog_10_method_4_code_1 rfl
noncomputable def rb_prog_10_method_5_code_0 : List UInt8 := 42 :: 180 :: 0 :: 31 :: 27 :: 122 :: 4 :: 126 :: 154 :: 0 :: 12 :: 42 :: 180 :: 0 :: 9 :: 27 :: 46 :: 167 :: 0 :: 7 :: 42 :: 180 :: 0 :: 62 :: 172 :: []
theorem rd_prog_10_method_5_code_0 : prog_10_method_5_code.data.toList.drop 0 = rb_prog_10_method_5_code_0 := by decide +kernel
noncomputable def rb_prog_10_method_6_code_0 : List UInt8 := 8 :: 42 :: 180 :: 0 :: 31 :: 184 :: 0 :: 65 :: 100 :: 172 :: []
theorem rd_prog_10_method_6_code_0 : prog_10_method_6_code.data.toList.drop 0 = rb_prog_10_method_6_code_0 := by decide +kernel
noncomputable def rb_prog_11_method_1_code_0 : List UInt8 := 42 :: 183 :: 0 :: 1 :: 177 :: []
theorem rd_prog_11_method_1_code_0 : prog_11_method_1_code.data.toList.drop 0 = rb_prog_11_method_1_code_0 := by decide +kernel
noncomputable def rb_prog_11_method_2_code_0 : List UInt8 := 42 :: 3 :: 181 :: 0 :: 7 :: 42 :: 3 :: 181 :: 0 :: 13 :: 42 :: 3 :: 181 :: 0 :: 16 :: 42 :: 3 :: 181 :: 0 :: 19 :: 42 :: 3 :: 181 :: 0 :: 22 :: 42 :: 3 :: 181 :: 0 :: 26 :: 177 :: []
theorem rd_prog_11_method_2_code_0 : prog_11_method_2_code.data.toList.drop 0 = rb_prog_11_method_2_code_0 := by decide +kernel
noncomputable def rb_prog_11_method_3_code_1 : List UInt8 := 42 :: 43 :: 180 :: 0 :: 22 :: 181 :: 0 :: 22 :: 42 :: 43 :: 180 :: 0 :: 26 :: 181 :: 0 :: 26 :: 177 :: []
noncomputable def rb_prog_11_method_3_code_0 : List UInt8 := 42 :: 43 :: 180 :: 0 :: 7 :: 181 :: 0 :: 7 :: 42 :: 43 :: 180 :: 0 :: 13 :: 181 :: 0 :: 13 :: 42 :: 43 :: 180 :: 0 :: 16 :: 181 :: 0 :: 16 :: 42 :: 43 :: 180 :: 0 :: 19 :: 181 :: 0 :: 19 :: rb_prog_11_method_3_code_1
theorem rd_prog_11_method_3_code_0 : prog_11_method_3_code.data.toList.drop 0 = rb_prog_11_method_3_code_0 := by decide +kernel
theorem rd_prog_11_method_3_code_1 : prog_11_method_3_code.data.toList.drop 32 = rb_prog_11_method_3_code_1 := dst 32 rd_prog_11_method_3_code_0 rfl
noncomputable def rb_prog_11_method_4_code_1 : List UInt8 := 0 :: 7 :: 4 :: 167 :: 0 :: 4 :: 3 :: 172 :: []
noncomputable def rb_prog_11_method_4_code_0 : List UInt8 := 42 :: 180 :: 0 :: 22 :: 154 :: 0 :: 34 :: 42 :: 180 :: 0 :: 7 :: 43 :: 180 :: 0 :: 29 :: 162 :: 0 :: 23 :: 43 :: 42 :: 180 :: 0 :: 7 :: 42 :: 180 :: 0 :: 13 :: 28 :: 182 :: 0 :: 34 :: 153 :: rb_prog_11_method_4_code_1
theorem rd_prog_11_method_4_code_0 : prog_11_method_4_code.data.toList.drop 0 = rb_prog_11_method_4_code_0 := by decide +kernel
theorem rd_prog_11_method_4_code_1 : prog_11_method_4_code.data.toList.drop 32 = rb_prog_11_method_4_code_1 := dst 32 rd_prog_11_method_4_code_0 rfl
noncomputable def rb_prog_11_method_5_code_1 : List UInt8 := 0 :: 13 :: 42 :: 180 :: 0 :: 16 :: 28 :: 182 :: 0 :: 47 :: 62 :: 42 :: 89 :: 180 :: 0 :: 26 :: 29 :: 96 :: 181 :: 0 :: 26 :: 29 :: 172 :: []
noncomputable def rb_prog_11_method_5_code_0 : List UInt8 := 42 :: 42 :: 180 :: 0 :: 13 :: 28 :: 184 :: 0 :: 38 :: 181 :: 0 :: 13 :: 42 :: 28 :: 184 :: 0 :: 44 :: 181 :: 0 :: 19 :: 42 :: 4 :: 181 :: 0 :: 22 :: 43 :: 42 :: 180 :: 0 :: 7 :: 42 :: 180 :: rb_prog_11_method_5_code_1
theorem rd_prog_11_method_5_code_0 : prog_11_method_5_code.data.toList.drop 0 = rb_prog_11_method_5_code_0 := by decide +kernel
theorem rd_prog_11_method_5_code_1 : prog_11_method_5_code.data.toList.drop 32 = rb_prog_11_method_5_code_1 := dst 32 rd_prog_11_method_5_code_0 rfl
noncomputable def rb_prog_11_method_6_code_0 : List UInt8 := 42 :: 180 :: 0 :: 22 :: 153 :: 0 :: 18 :: 42 :: 180 :: 0 :: 13 :: 27 :: 184 :: 0 :: 51 :: 153 :: 0 :: 7 :: 4 :: 167 :: 0 :: 4 :: 3 :: 172 :: []
theorem rd_prog_11_method_6_code_0 : prog_11_method_6_code.data.toList.drop 0 = rb_prog_11_method_6_code_0 := by decide +kernel
noncomputable def rb_prog_11_method_7_code_1 : List UInt8 := 181 :: 0 :: 7 :: 42 :: 180 :: 0 :: 7 :: 43 :: 180 :: 0 :: 29 :: 160 :: 0 :: 20 :: 42 :: 89 :: 180 :: 0 :: 26 :: 43 :: 42 :: 180 :: 0 :: 13 :: 182 :: 0 :: 60 :: 96 :: 181 :: 0 :: 26 :: 177 :: []
noncomputable def rb_prog_11_method_7_code_0 : List UInt8 := 42 :: 42 :: 180 :: 0 :: 13 :: 28 :: 184 :: 0 :: 57 :: 181 :: 0 :: 13 :: 42 :: 42 :: 180 :: 0 :: 19 :: 181 :: 0 :: 16 :: 42 :: 3 :: 181 :: 0 :: 22 :: 42 :: 89 :: 180 :: 0 :: 7 :: 4 :: 96 :: rb_prog_11_method_7_code_1
theorem rd_prog_11_method_7_code_0 : prog_11_method_7_code.data.toList.drop 0 = rb_prog_11_method_7_code_0 := by decide +kernel
theorem rd_prog_11_method_7_code_1 : prog_11_method_7_code.data.toList.drop 32 = rb_prog_11_method_7_code_1 := dst 32 rd_prog_11_method_7_code_0 rfl
noncomputable def rb_prog_12_method_1_code_0 : List UInt8 := 42 :: 183 :: 0 :: 3 :: 42 :: 16 :: 64 :: 188 :: 8 :: 181 :: 0 :: 11 :: 177 :: []
theorem rd_prog_12_method_1_code_0 : prog_12_method_1_code.data.toList.drop 0 = rb_prog_12_method_1_code_0 := by decide +kernel
noncomputable def rb_prog_12_method_2_code_0 : List UInt8 := 42 :: 180 :: 0 :: 15 :: 27 :: 96 :: 16 :: 64 :: 163 :: 0 :: 7 :: 4 :: 167 :: 0 :: 4 :: 3 :: 172 :: []
theorem rd_prog_12_method_2_code_0 : prog_12_method_2_code.data.toList.drop 0 = rb_prog_12_method_2_code_0 := by decide +kernel
noncomputable def rb_prog_12_method_3_code_1 : List UInt8 := 15 :: 4 :: 96 :: 181 :: 0 :: 15 :: 132 :: 4 :: 255 :: 167 :: 255 :: 220 :: 177 :: []
noncomputable def rb_prog_12_method_3_code_0 : List UInt8 := 27 :: 4 :: 100 :: 54 :: 4 :: 21 :: 4 :: 155 :: 0 :: 37 :: 42 :: 180 :: 0 :: 11 :: 42 :: 180 :: 0 :: 15 :: 32 :: 16 :: 8 :: 21 :: 4 :: 104 :: 125 :: 136 :: 145 :: 84 :: 42 :: 89 :: 180 :: 0 :: rb_prog_12_method_3_code_1
theorem rd_prog_12_method_3_code_0 : prog_12_method_3_code.data.toList.drop 0 = rb_prog_12_method_3_code_0 := by decide +kernel
theorem rd_prog_12_method_3_code_1 : prog_12_method_3_code.data.toList.drop 32 = rb_prog_12_method_3_code_1 := dst 32 rd_prog_12_method_3_code_0 rfl
noncomputable def rb_prog_12_method_4_code_0 : List UInt8 := 27 :: 155 :: 0 :: 24 :: 27 :: 42 :: 180 :: 0 :: 15 :: 162 :: 0 :: 16 :: 42 :: 180 :: 0 :: 11 :: 27 :: 51 :: 17 :: 0 :: 255 :: 126 :: 167 :: 0 :: 5 :: 16 :: 247 :: 172 :: []
theorem rd_prog_12_method_4_code_0 : prog_12_method_4_code.data.toList.drop 0 = rb_prog_12_method_4_code_0 := by decide +kernel
noncomputable def rb_prog_15_method_49_code_1 : List UInt8 := 126 :: 59 :: 26 :: 26 :: 16 :: 8 :: 124 :: 96 :: 59 :: 26 :: 26 :: 16 :: 16 :: 124 :: 96 :: 59 :: 26 :: 16 :: 63 :: 126 :: 172 :: []
noncomputable def rb_prog_15_method_49_code_0 : List UInt8 := 26 :: 26 :: 4 :: 124 :: 19 :: 1 :: 9 :: 126 :: 100 :: 59 :: 26 :: 19 :: 1 :: 10 :: 126 :: 26 :: 5 :: 124 :: 19 :: 1 :: 10 :: 126 :: 96 :: 59 :: 26 :: 26 :: 7 :: 124 :: 96 :: 19 :: 1 :: 11 :: rb_prog_15_method_49_code_1
theorem rd_prog_15_method_49_code_0 : prog_15_method_49_code.data.toList.drop 0 = rb_prog_15_method_49_code_0 := by decide +kernel
theorem rd_prog_15_method_49_code_1 : prog_15_method_49_code.data.toList.drop 32 = rb_prog_15_method_49_code_1 := dst 32 rd_prog_15_method_49_code_0 rfl
noncomputable def rb_prog_16_method_65_code_0 : List UInt8 := 26 :: 27 :: 161 :: 0 :: 7 :: 26 :: 167 :: 0 :: 4 :: 27 :: 172 :: []
theorem rd_prog_16_method_65_code_0 : prog_16_method_65_code.data.toList.drop 0 = rb_prog_16_method_65_code_0 := by decide +kernel
noncomputable def rb_prog_16_method_69_code_0 : List UInt8 := 26 :: 27 :: 163 :: 0 :: 7 :: 26 :: 167 :: 0 :: 4 :: 27 :: 172 :: []
theorem rd_prog_16_method_69_code_0 : prog_16_method_69_code.data.toList.drop 0 = rb_prog_16_method_69_code_0 := by decide +kernel
noncomputable def rb_prog_17_method_54_code_0 : List UInt8 := 42 :: 180 :: 0 :: 9 :: 190 :: 42 :: 182 :: 1 :: 79 :: 122 :: 172 :: []
theorem rd_prog_17_method_54_code_0 : prog_17_method_54_code.data.toList.drop 0 = rb_prog_17_method_54_code_0 := by decide +kernel
noncomputable def rb_prog_17_method_56_code_0 : List UInt8 := 42 :: 182 :: 1 :: 236 :: 153 :: 0 :: 12 :: 42 :: 180 :: 0 :: 9 :: 27 :: 184 :: 1 :: 239 :: 172 :: 42 :: 180 :: 0 :: 9 :: 27 :: 184 :: 1 :: 242 :: 172 :: []
theorem rd_prog_17_method_56_code_0 : prog_17_method_56_code.data.toList.drop 0 = rb_prog_17_method_56_code_0 := by decide +kernel
noncomputable def rb_prog_17_method_152_code_0 : List UInt8 := 178 :: 0 :: 38 :: 153 :: 0 :: 10 :: 42 :: 180 :: 0 :: 15 :: 167 :: 0 :: 4 :: 4 :: 172 :: []
theorem rd_prog_17_method_152_code_0 : prog_17_method_152_code.data.toList.drop 0 = rb_prog_17_method_152_code_0 := by decide +kernel
noncomputable def rb_prog_17_method_154_code_0 : List UInt8 := 178 :: 0 :: 38 :: 153 :: 0 :: 14 :: 42 :: 180 :: 0 :: 15 :: 154 :: 0 :: 7 :: 4 :: 167 :: 0 :: 4 :: 3 :: 172 :: []
theorem rd_prog_17_method_154_code_0 : prog_17_method_154_code.data.toList.drop 0 = rb_prog_17_method_154_code_0 := by decide +kernel
noncomputable def rb_prog_17_method_155_code_0 : List UInt8 := 26 :: 27 :: 178 :: 4 :: 29 :: 184 :: 4 :: 35 :: 87 :: 177 :: []
theorem rd_prog_17_method_155_code_0 : prog_17_method_155_code.data.toList.drop 0 = rb_prog_17_method_155_code_0 := by decide +kernel
noncomputable def rb_prog_18_method_2_code_0 : List UInt8 := 27 :: 42 :: 190 :: 184 :: 0 :: 9 :: 42 :: 27 :: 51 :: 17 :: 0 :: 255 :: 126 :: 146 :: 172 :: []
theorem rd_prog_18_method_2_code_0 : prog_18_method_2_code.data.toList.drop 0 = rb_prog_18_method_2_code_0 := by decide +kernel
noncomputable def rb_prog_19_method_5_code_1 : List UInt8 := 42 :: 27 :: 132 :: 1 :: 1 :: 51 :: 17 :: 0 :: 255 :: 126 :: 178 :: 0 :: 59 :: 120 :: 42 :: 27 :: 51 :: 17 :: 0 :: 255 :: 126 :: 178 :: 0 :: 63 :: 120 :: 128 :: 146 :: 172 :: []
noncomputable def rb_prog_19_method_5_code_0 : List UInt8 := 178 :: 0 :: 44 :: 154 :: 0 :: 25 :: 27 :: 155 :: 0 :: 11 :: 27 :: 42 :: 184 :: 0 :: 48 :: 161 :: 0 :: 13 :: 187 :: 0 :: 52 :: 89 :: 18 :: 54 :: 183 :: 0 :: 56 :: 191 :: 27 :: 4 :: 120 :: 60 :: rb_prog_19_method_5_code_1
theorem rd_prog_19_method_5_code_0 : prog_19_method_5_code.data.toList.drop 0 = rb_prog_19_method_5_code_0 := by decide +kernel
theorem rd_prog_19_method_5_code_1 : prog_19_method_5_code.data.toList.drop 32 = rb_prog_19_method_5_code_1 := dst 32 rd_prog_19_method_5_code_0 rfl
noncomputable def rb_prog_19_method_6_code_0 : List UInt8 := 42 :: 190 :: 4 :: 122 :: 172 :: []
theorem rd_prog_19_method_6_code_0 : prog_19_method_6_code.data.toList.drop 0 = rb_prog_19_method_6_code_0 := by decide +kernel
noncomputable def rb_prog_19_method_83_code_0 : List UInt8 := 27 :: 42 :: 184 :: 0 :: 67 :: 42 :: 27 :: 184 :: 0 :: 71 :: 172 :: []
theorem rd_prog_19_method_83_code_0 : prog_19_method_83_code.data.toList.drop 0 = rb_prog_19_method_83_code_0 := by decide +kernel
noncomputable def rb_prog_19_method_91_code_0 : List UInt8 := 26 :: 43 :: 184 :: 0 :: 48 :: 184 :: 1 :: 158 :: 177 :: []
theorem rd_prog_19_method_91_code_0 : prog_19_method_91_code.data.toList.drop 0 = rb_prog_19_method_91_code_0 := by decide +kernel
noncomputable def rb_prog_21_method_101_code_0 : List UInt8 := 3 :: 62 :: 42 :: 190 :: 54 :: 4 :: 29 :: 21 :: 4 :: 162 :: 0 :: 13 :: 42 :: 29 :: 31 :: 80 :: 132 :: 3 :: 1 :: 167 :: 255 :: 243 :: 177 :: []
theorem rd_prog_21_method_101_code_0 : prog_21_method_101_code.data.toList.drop 0 = rb_prog_21_method_101_code_0 := by decide +kernel
noncomputable def rb_prog_21_method_103_code_0 : List UInt8 := 3 :: 61 :: 42 :: 190 :: 62 :: 28 :: 29 :: 162 :: 0 :: 13 :: 42 :: 28 :: 27 :: 79 :: 132 :: 2 :: 1 :: 167 :: 255 :: 244 :: 177 :: []
theorem rd_prog_21_method_103_code_0 : prog_21_method_103_code.data.toList.drop 0 = rb_prog_21_method_103_code_0 := by decide +kernel
noncomputable def rb_prog_22_method_11_code_0 : List UInt8 := 26 :: 155 :: 0 :: 8 :: 26 :: 27 :: 161 :: 0 :: 10 :: 44 :: 26 :: 27 :: 184 :: 0 :: 95 :: 191 :: 26 :: 172 :: []
theorem rd_prog_22_method_11_code_0 : prog_22_method_11_code.data.toList.drop 0 = rb_prog_22_method_11_code_0 := by decide +kernel
noncomputable def rb_prog_1_method_1_code_5 : List UInt8 := 187 :: 0 :: 83 :: 89 :: 183 :: 0 :: 85 :: 181 :: 0 :: 86 :: 42 :: 16 :: 247 :: 181 :: 0 :: 90 :: 42 :: 180 :: 0 :: 39 :: 182 :: 0 :: 94 :: 177 :: []
noncomputable def rb_prog_1_method_1_code_4 : List UInt8 := 0 :: 69 :: 42 :: 187 :: 0 :: 66 :: 89 :: 183 :: 0 :: 68 :: 181 :: 0 :: 73 :: 42 :: 187 :: 0 :: 66 :: 89 :: 183 :: 0 :: 68 :: 181 :: 0 :: 76 :: 42 :: 5 :: 188 :: 4 :: 181 :: 0 :: 79 :: 42 :: rb_prog_1_method_1_code_5
noncomputable def rb_prog_1_method_1_code_3 : List UInt8 := 52 :: 42 :: 187 :: 0 :: 56 :: 89 :: 183 :: 0 :: 58 :: 181 :: 0 :: 59 :: 42 :: 187 :: 0 :: 56 :: 89 :: 183 :: 0 :: 58 :: 181 :: 0 :: 63 :: 42 :: 187 :: 0 :: 66 :: 89 :: 183 :: 0 :: 68 :: 181 :: rb_prog_1_method_1_code_4
noncomputable def rb_prog_1_method_1_code_2 : List UInt8 := 181 :: 0 :: 39 :: 42 :: 187 :: 0 :: 32 :: 89 :: 183 :: 0 :: 34 :: 181 :: 0 :: 42 :: 42 :: 16 :: 15 :: 188 :: 10 :: 181 :: 0 :: 45 :: 42 :: 187 :: 0 :: 49 :: 89 :: 183 :: 0 :: 51 :: 181 :: 0 :: rb_prog_1_method_1_code_3
noncomputable def rb_prog_1_method_1_code_1 : List UInt8 := 0 :: 25 :: 89 :: 42 :: 180 :: 0 :: 10 :: 183 :: 0 :: 27 :: 181 :: 0 :: 28 :: 42 :: 187 :: 0 :: 32 :: 89 :: 183 :: 0 :: 34 :: 181 :: 0 :: 35 :: 42 :: 187 :: 0 :: 32 :: 89 :: 183 :: 0 :: 34 :: rb_prog_1_method_1_code_2
noncomputable def rb_prog_1_method_1_code_0 : List UInt8 := 42 :: 183 :: 0 :: 1 :: 42 :: 187 :: 0 :: 7 :: 89 :: 183 :: 0 :: 9 :: 181 :: 0 :: 10 :: 42 :: 187 :: 0 :: 16 :: 89 :: 42 :: 180 :: 0 :: 10 :: 183 :: 0 :: 18 :: 181 :: 0 :: 21 :: 42 :: 187 :: rb_prog_1_method_1_code_1
theorem rd_prog_1_method_1_code_0 : prog_1_method_1_code.data.toList.drop 0 = rb_prog_1_method_1_code_0 := by decide +kernel
theorem rd_prog_1_method_1_code_1 : prog_1_method_1_code.data.toList.drop 32 = rb_prog_1_method_1_code_1 := dst 32 rd_prog_1_method_1_code_0 rfl
theorem rd_prog_1_method_1_code_2 : prog_1_method_1_code.data.toList.drop 64 = rb_prog_1_method_1_code_2 := dst 32 rd_prog_1_method_1_code_1 rfl
theorem rd_prog_1_method_1_code_3 : prog_1_method_1_code.data.toList.drop 96 = rb_prog_1_method_1_code_3 := dst 32 rd_prog_1_method_1_code_2 rfl
theorem rd_prog_1_method_1_code_4 : prog_1_method_1_code.data.toList.drop 128 = rb_prog_1_method_1_code_4 := dst 32 rd_prog_1_method_1_code_3 rfl
theorem rd_prog_1_method_1_code_5 : prog_1_method_1_code.data.toList.drop 160 = rb_prog_1_method_1_code_5 := dst 32 rd_prog_1_method_1_code_4 rfl
noncomputable def rb_prog_1_method_2_code_1 : List UInt8 := 27 :: 32 :: 182 :: 0 :: 101 :: 42 :: 180 :: 0 :: 10 :: 180 :: 0 :: 105 :: 172 :: []
noncomputable def rb_prog_1_method_2_code_0 : List UInt8 := 27 :: 4 :: 161 :: 0 :: 9 :: 27 :: 16 :: 8 :: 164 :: 0 :: 6 :: 16 :: 254 :: 172 :: 42 :: 180 :: 0 :: 10 :: 27 :: 182 :: 0 :: 97 :: 154 :: 0 :: 6 :: 16 :: 252 :: 172 :: 42 :: 180 :: 0 :: 10 :: rb_prog_1_method_2_code_1
theorem rd_prog_1_method_2_code_0 : prog_1_method_2_code.data.toList.drop 0 = rb_prog_1_method_2_code_0 := by decide +kernel
theorem rd_prog_1_method_2_code_1 : prog_1_method_2_code.data.toList.drop 32 = rb_prog_1_method_2_code_1 := dst 32 rd_prog_1_method_2_code_0 rfl
noncomputable def rb_prog_1_method_3_code_0 : List UInt8 := 42 :: 180 :: 0 :: 10 :: 180 :: 0 :: 105 :: 60 :: 42 :: 180 :: 0 :: 10 :: 3 :: 181 :: 0 :: 105 :: 27 :: 172 :: []
theorem rd_prog_1_method_3_code_0 : prog_1_method_3_code.data.toList.drop 0 = rb_prog_1_method_3_code_0 := by decide +kernel
noncomputable def rb_prog_1_method_4_code_0 : List UInt8 := 27 :: 153 :: 0 :: 13 :: 42 :: 180 :: 0 :: 28 :: 182 :: 0 :: 108 :: 167 :: 0 :: 14 :: 42 :: 180 :: 0 :: 21 :: 42 :: 180 :: 0 :: 35 :: 182 :: 0 :: 112 :: 172 :: []
theorem rd_prog_1_method_4_code_0 : prog_1_method_4_code.data.toList.drop 0 = rb_prog_1_method_4_code_0 := by decide +kernel
noncomputable def rb_prog_1_method_5_code_2 : List UInt8 := 1 :: 1 :: 167 :: 255 :: 241 :: 42 :: 180 :: 0 :: 39 :: 180 :: 0 :: 126 :: 172 :: []
noncomputable def rb_prog_1_method_5_code_1 : List UInt8 := 3 :: 181 :: 0 :: 119 :: 42 :: 16 :: 247 :: 181 :: 0 :: 90 :: 42 :: 180 :: 0 :: 69 :: 182 :: 0 :: 123 :: 3 :: 60 :: 27 :: 5 :: 162 :: 0 :: 16 :: 42 :: 180 :: 0 :: 79 :: 27 :: 3 :: 84 :: 132 :: rb_prog_1_method_5_code_2
noncomputable def rb_prog_1_method_5_code_0 : List UInt8 := 42 :: 180 :: 0 :: 21 :: 42 :: 180 :: 0 :: 35 :: 182 :: 0 :: 112 :: 16 :: 247 :: 159 :: 0 :: 6 :: 16 :: 253 :: 172 :: 42 :: 180 :: 0 :: 39 :: 42 :: 180 :: 0 :: 35 :: 3 :: 182 :: 0 :: 115 :: 42 :: rb_prog_1_method_5_code_1
theorem rd_prog_1_method_5_code_0 : prog_1_method_5_code.data.toList.drop 0 = rb_prog_1_method_5_code_0 := by decide +kernel
theorem rd_prog_1_method_5_code_1 : prog_1_method_5_code.data.toList.drop 32 = rb_prog_1_method_5_code_1 := dst 32 rd_prog_1_method_5_code_0 rfl
theorem rd_prog_1_method_5_code_2 : prog_1_method_5_code.data.toList.drop 64 = rb_prog_1_method_5_code_2 := dst 32 rd_prog_1_method_5_code_1 rfl
noncomputable def rb_prog_1_method_6_code_1 : List UInt8 := 42 :: 180 :: 0 :: 45 :: 27 :: 8 :: 104 :: 28 :: 96 :: 42 :: 180 :: 0 :: 28 :: 28 :: 182 :: 0 :: 132 :: 79 :: 132 :: 2 :: 1 :: 167 :: 255 :: 230 :: 42 :: 180 :: 0 :: 28 :: 182 :: 0 :: 136 :: 172 :: []
noncomputable def rb_prog_1_method_6_code_0 : List UInt8 := 42 :: 27 :: 182 :: 0 :: 129 :: 154 :: 0 :: 5 :: 2 :: 172 :: 42 :: 180 :: 0 :: 28 :: 182 :: 0 :: 108 :: 16 :: 247 :: 159 :: 0 :: 6 :: 16 :: 253 :: 172 :: 3 :: 61 :: 28 :: 8 :: 162 :: 0 :: 27 :: rb_prog_1_method_6_code_1
theorem rd_prog_1_method_6_code_0 : prog_1_method_6_code.data.toList.drop 0 = rb_prog_1_method_6_code_0 := by decide +kernel
theorem rd_prog_1_method_6_code_1 : prog_1_method_6_code.data.toList.drop 32 = rb_prog_1_method_6_code_1 := dst 32 rd_prog_1_method_6_code_0 rfl
noncomputable def rb_prog_1_method_7_code_0 : List UInt8 := 42 :: 27 :: 182 :: 0 :: 129 :: 153 :: 0 :: 12 :: 28 :: 155 :: 0 :: 8 :: 28 :: 8 :: 161 :: 0 :: 5 :: 2 :: 172 :: 42 :: 27 :: 28 :: 182 :: 0 :: 139 :: 172 :: []
theorem rd_prog_1_method_7_code_0 : prog_1_method_7_code.data.toList.drop 0 = rb_prog_1_method_7_code_0 := by decide +kernel
noncomputable def rb_prog_1_method_8_code_1 : List UInt8 := 0 :: 0 :: 0 :: 35 :: 42 :: 180 :: 0 :: 39 :: 180 :: 0 :: 146 :: 27 :: 46 :: 172 :: 42 :: 180 :: 0 :: 39 :: 180 :: 0 :: 149 :: 27 :: 46 :: 172 :: 16 :: 254 :: 172 :: []
noncomputable def rb_prog_1_method_8_code_0 : List UInt8 := 42 :: 27 :: 182 :: 0 :: 143 :: 154 :: 0 :: 5 :: 2 :: 172 :: 28 :: 171 :: 0 :: 0 :: 0 :: 45 :: 0 :: 0 :: 0 :: 2 :: 0 :: 0 :: 0 :: 0 :: 0 :: 0 :: 0 :: 25 :: 0 :: 0 :: 0 :: 1 :: rb_prog_1_method_8_code_1
theorem rd_prog_1_method_8_code_0 : prog_1_method_8_code.data.toList.drop 0 = rb_prog_1_method_8_code_0 := by decide +kernel
theorem rd_prog_1_method_8_code_1 : prog_1_method_8_code.data.toList.drop 32 = rb_prog_1_method_8_code_1 := dst 32 rd_prog_1_method_8_code_0 rfl
noncomputable def rb_prog_1_method_9_code_1 : List UInt8 := 0 :: 0 :: 0 :: 1 :: 0 :: 0 :: 0 :: 36 :: 42 :: 180 :: 0 :: 39 :: 27 :: 182 :: 0 :: 152 :: 172 :: 42 :: 180 :: 0 :: 39 :: 180 :: 0 :: 155 :: 27 :: 46 :: 172 :: 16 :: 254 :: 172 :: []
noncomputable def rb_prog_1_method_9_code_0 : List UInt8 := 27 :: 155 :: 0 :: 8 :: 27 :: 6 :: 161 :: 0 :: 6 :: 16 :: 254 :: 172 :: 28 :: 171 :: 0 :: 0 :: 0 :: 0 :: 0 :: 46 :: 0 :: 0 :: 0 :: 2 :: 0 :: 0 :: 0 :: 0 :: 0 :: 0 :: 0 :: 27 :: rb_prog_1_method_9_code_1
theorem rd_prog_1_method_9_code_0 : prog_1_method_9_code.data.toList.drop 0 = rb_prog_1_method_9_code_0 := by decide +kernel
theorem rd_prog_1_method_9_code_1 : prog_1_method_9_code.data.toList.drop 32 = rb_prog_1_method_9_code_1 := dst 32 rd_prog_1_method_9_code_0 rfl
noncomputable def rb_prog_1_method_10_code_3 : List UInt8 := 42 :: 180 :: 0 :: 39 :: 180 :: 0 :: 173 :: 172 :: 42 :: 180 :: 0 :: 39 :: 180 :: 0 :: 176 :: 172 :: 16 :: 254 :: 172 :: []
noncomputable def rb_prog_1_method_10_code_2 : List UInt8 := 42 :: 180 :: 0 :: 39 :: 180 :: 0 :: 161 :: 172 :: 42 :: 180 :: 0 :: 39 :: 180 :: 0 :: 164 :: 172 :: 42 :: 180 :: 0 :: 39 :: 180 :: 0 :: 167 :: 172 :: 42 :: 180 :: 0 :: 39 :: 180 :: 0 :: 170 :: 172 :: rb_prog_1_method_10_code_3
noncomputable def rb_prog_1_method_10_code_1 : List UInt8 := 0 :: 0 :: 0 :: 79 :: 0 :: 0 :: 0 :: 87 :: 0 :: 0 :: 0 :: 95 :: 0 :: 0 :: 0 :: 103 :: 42 :: 180 :: 0 :: 39 :: 180 :: 0 :: 126 :: 172 :: 42 :: 180 :: 0 :: 39 :: 180 :: 0 :: 158 :: 172 :: rb_prog_1_method_10_code_2
noncomputable def rb_prog_1_method_10_code_0 : List UInt8 := 27 :: 170 :: 0 :: 0 :: 0 :: 0 :: 0 :: 111 :: 0 :: 0 :: 0 :: 0 :: 0 :: 0 :: 0 :: 7 :: 0 :: 0 :: 0 :: 47 :: 0 :: 0 :: 0 :: 55 :: 0 :: 0 :: 0 :: 63 :: 0 :: 0 :: 0 :: 71 :: rb_prog_1_method_10_code_1
theorem rd_prog_1_method_10_code_0 : prog_1_method_10_code.data.toList.drop 0 = rb_prog_1_method_10_code_0 := by decide +kernel
theorem rd_prog_1_method_10_code_1 : prog_1_method_10_code.data.toList.drop 32 = rb_prog_1_method_10_code_1 := dst 32 rd_prog_1_method_10_code_0 rfl
theorem rd_prog_1_method_10_code_2 : prog_1_method_10_code.data.toList.drop 64 = rb_prog_1_method_10_code_2 := dst 32 rd_prog_1_method_10_code_1 rfl
theorem rd_prog_1_method_10_code_3 : prog_1_method_10_code.data.toList.drop 96 = rb_prog_1_method_10_code_3 := dst 32 rd_prog_1_method_10_code_2 rfl
noncomputable def rb_prog_1_method_11_code_1 : List UInt8 := 7 :: 3 :: 167 :: 0 :: 4 :: 4 :: 172 :: []
noncomputable def rb_prog_1_method_11_code_0 : List UInt8 := 42 :: 27 :: 28 :: 3 :: 29 :: 182 :: 0 :: 179 :: 54 :: 4 :: 21 :: 4 :: 2 :: 159 :: 0 :: 10 :: 21 :: 4 :: 16 :: 254 :: 160 :: 0 :: 6 :: 21 :: 4 :: 172 :: 21 :: 4 :: 16 :: 253 :: 160 :: 0 :: rb_prog_1_method_11_code_1
theorem rd_prog_1_method_11_code_0 : prog_1_method_11_code.data.toList.drop 0 = rb_prog_1_method_11_code_0 := by decide +kernel
theorem rd_prog_1_method_11_code_1 : prog_1_method_11_code.data.toList.drop 32 = rb_prog_1_method_11_code_1 := dst 32 rd_prog_1_method_11_code_0 rfl
noncomputable def rb_prog_1_method_12_code_0 : List UInt8 := 42 :: 27 :: 28 :: 3 :: 29 :: 182 :: 0 :: 179 :: 54 :: 4 :: 21 :: 4 :: 153 :: 0 :: 8 :: 21 :: 4 :: 167 :: 0 :: 8 :: 28 :: 29 :: 184 :: 0 :: 183 :: 172 :: []
theorem rd_prog_1_method_12_code_0 : prog_1_method_12_code.data.toList.drop 0 = rb_prog_1_method_12_code_0 := by decide +kernel
noncomputable def rb_prog_1_method_13_code_1 : List UInt8 := 29 :: 21 :: 4 :: 182 :: 0 :: 188 :: 172 :: []
noncomputable def rb_prog_1_method_13_code_0 : List UInt8 := 42 :: 27 :: 28 :: 29 :: 21 :: 4 :: 182 :: 0 :: 179 :: 54 :: 5 :: 21 :: 5 :: 153 :: 0 :: 8 :: 21 :: 5 :: 167 :: 0 :: 20 :: 42 :: 180 :: 0 :: 39 :: 27 :: 28 :: 21 :: 4 :: 184 :: 0 :: 183 :: rb_prog_1_method_13_code_1
theorem rd_prog_1_method_13_code_0 : prog_1_method_13_code.data.toList.drop 0 = rb_prog_1_method_13_code_0 := by decide +kernel
theorem rd_prog_1_method_13_code_1 : prog_1_method_13_code.data.toList.drop 32 = rb_prog_1_method_13_code_1 := dst 32 rd_prog_1_method_13_code_0 rfl
noncomputable def rb_prog_1_method_14_code_1 : List UInt8 := 4 :: 184 :: 0 :: 191 :: 182 :: 0 :: 194 :: 54 :: 7 :: 3 :: 21 :: 5 :: 153 :: 0 :: 9 :: 21 :: 7 :: 116 :: 167 :: 0 :: 5 :: 21 :: 7 :: 184 :: 0 :: 197 :: 172 :: []
noncomputable def rb_prog_1_method_14_code_0 : List UInt8 := 42 :: 27 :: 28 :: 29 :: 21 :: 4 :: 182 :: 0 :: 179 :: 54 :: 6 :: 21 :: 6 :: 153 :: 0 :: 6 :: 21 :: 6 :: 172 :: 42 :: 180 :: 0 :: 39 :: 27 :: 28 :: 21 :: 4 :: 184 :: 0 :: 183 :: 29 :: 21 :: rb_prog_1_method_14_code_1
theorem rd_prog_1_method_14_code_0 : prog_1_method_14_code.data.toList.drop 0 = rb_prog_1_method_14_code_0 := by decide +kernel
theorem rd_prog_1_method_14_code_1 : prog_1_method_14_code.data.toList.drop 32 = rb_prog_1_method_14_code_1 := dst 32 rd_prog_1_method_14_code_0 rfl
noncomputable def rb_prog_1_method_15_code_0 : List UInt8 := 42 :: 27 :: 182 :: 0 :: 202 :: 154 :: 0 :: 7 :: 20 :: 0 :: 205 :: 173 :: 42 :: 180 :: 0 :: 39 :: 27 :: 28 :: 182 :: 0 :: 207 :: 133 :: 20 :: 0 :: 210 :: 29 :: 184 :: 0 :: 212 :: 173 :: []
theorem rd_prog_1_method_15_code_0 : prog_1_method_15_code.data.toList.drop 0 = rb_prog_1_method_15_code_0 := by decide +kernel
noncomputable def rb_prog_1_method_16_code_1 : List UInt8 := 39 :: 28 :: 29 :: 42 :: 27 :: 28 :: 182 :: 0 :: 139 :: 182 :: 0 :: 216 :: 172 :: []
noncomputable def rb_prog_1_method_16_code_0 : List UInt8 := 42 :: 27 :: 182 :: 0 :: 129 :: 153 :: 0 :: 11 :: 42 :: 28 :: 182 :: 0 :: 143 :: 154 :: 0 :: 5 :: 2 :: 172 :: 42 :: 29 :: 182 :: 0 :: 202 :: 154 :: 0 :: 6 :: 16 :: 254 :: 172 :: 42 :: 180 :: 0 :: rb_prog_1_method_16_code_1
theorem rd_prog_1_method_16_code_0 : prog_1_method_16_code.data.toList.drop 0 = rb_prog_1_method_16_code_0 := by decide +kernel
theorem rd_prog_1_method_16_code_1 : prog_1_method_16_code.data.toList.drop 32 = rb_prog_1_method_16_code_1 := dst 32 rd_prog_1_method_16_code_0 rfl
noncomputable def rb_prog_1_method_17_code_1 : List UInt8 := 27 :: 28 :: 29 :: 21 :: 4 :: 182 :: 0 :: 225 :: 42 :: 180 :: 0 :: 52 :: 180 :: 0 :: 229 :: 42 :: 180 :: 0 :: 52 :: 180 :: 0 :: 233 :: 21 :: 5 :: 184 :: 0 :: 212 :: 173 :: []
noncomputable def rb_prog_1_method_17_code_0 : List UInt8 := 42 :: 27 :: 182 :: 0 :: 129 :: 154 :: 0 :: 7 :: 20 :: 0 :: 220 :: 173 :: 42 :: 28 :: 29 :: 21 :: 4 :: 182 :: 0 :: 222 :: 54 :: 6 :: 21 :: 6 :: 153 :: 0 :: 7 :: 21 :: 6 :: 133 :: 173 :: 42 :: rb_prog_1_method_17_code_1
theorem rd_prog_1_method_17_code_0 : prog_1_method_17_code.data.toList.drop 0 = rb_prog_1_method_17_code_0 := by decide +kernel
theorem rd_prog_1_method_17_code_1 : prog_1_method_17_code.data.toList.drop 32 = rb_prog_1_method_17_code_1 := dst 32 rd_prog_1_method_17_code_0 rfl
noncomputable def rb_prog_1_method_18_code_1 : List UInt8 := 240 :: 42 :: 180 :: 0 :: 52 :: 180 :: 0 :: 233 :: 29 :: 184 :: 0 :: 212 :: 173 :: []
noncomputable def rb_prog_1_method_18_code_0 : List UInt8 := 42 :: 27 :: 182 :: 0 :: 129 :: 153 :: 0 :: 11 :: 42 :: 28 :: 182 :: 0 :: 143 :: 154 :: 0 :: 7 :: 20 :: 0 :: 220 :: 173 :: 42 :: 27 :: 28 :: 182 :: 0 :: 236 :: 42 :: 180 :: 0 :: 52 :: 180 :: 0 :: rb_prog_1_method_18_code_1
theorem rd_prog_1_method_18_code_0 : prog_1_method_18_code.data.toList.drop 0 = rb_prog_1_method_18_code_0 := by decide +kernel
theorem rd_prog_1_method_18_code_1 : prog_1_method_18_code.data.toList.drop 32 = rb_prog_1_method_18_code_1 := dst 32 rd_prog_1_method_18_code_0 rfl
noncomputable def rb_prog_1_method_19_code_1 : List UInt8 := 243 :: 42 :: 180 :: 0 :: 52 :: 180 :: 0 :: 233 :: 29 :: 184 :: 0 :: 212 :: 173 :: []
noncomputable def rb_prog_1_method_19_code_0 : List UInt8 := 42 :: 27 :: 182 :: 0 :: 129 :: 153 :: 0 :: 11 :: 42 :: 28 :: 182 :: 0 :: 143 :: 154 :: 0 :: 7 :: 20 :: 0 :: 220 :: 173 :: 42 :: 27 :: 28 :: 182 :: 0 :: 236 :: 42 :: 180 :: 0 :: 52 :: 180 :: 0 :: rb_prog_1_method_19_code_1
theorem rd_prog_1_method_19_code_0 : prog_1_method_19_code.data.toList.drop 0 = rb_prog_1_method_19_code_0 := by decide +kernel
theorem rd_prog_1_method_19_code_1 : prog_1_method_19_code.data.toList.drop 32 = rb_prog_1_method_19_code_1 := dst 32 rd_prog_1_method_19_code_0 rfl
noncomputable def rb_prog_1_method_20_code_2 : List UInt8 := 0 :: 212 :: 173 :: []
noncomputable def rb_prog_1_method_20_code_1 : List UInt8 := 7 :: 164 :: 0 :: 7 :: 20 :: 0 :: 205 :: 173 :: 42 :: 27 :: 28 :: 182 :: 0 :: 246 :: 42 :: 180 :: 0 :: 52 :: 29 :: 182 :: 0 :: 249 :: 42 :: 180 :: 0 :: 52 :: 180 :: 0 :: 233 :: 21 :: 4 :: 184 :: rb_prog_1_method_20_code_2
noncomputable def rb_prog_1_method_20_code_0 : List UInt8 := 42 :: 27 :: 182 :: 0 :: 129 :: 153 :: 0 :: 18 :: 28 :: 155 :: 0 :: 14 :: 28 :: 42 :: 180 :: 0 :: 39 :: 180 :: 0 :: 126 :: 164 :: 0 :: 7 :: 20 :: 0 :: 220 :: 173 :: 29 :: 155 :: 0 :: 8 :: 29 :: rb_prog_1_method_20_code_1
theorem rd_prog_1_method_20_code_0 : prog_1_method_20_code.data.toList.drop 0 = rb_prog_1_method_20_code_0 := by decide +kernel
theorem rd_prog_1_method_20_code_1 : prog_1_method_20_code.data.toList.drop 32 = rb_prog_1_method_20_code_1 := dst 32 rd_prog_1_method_20_code_0 rfl
theorem rd_prog_1_method_20_code_2 : prog_1_method_20_code.data.toList.drop 64 = rb_prog_1_method_20_code_2 := dst 32 rd_prog_1_method_20_code_1 rfl
noncomputable def rb_prog_1_method_21_code_1 : List UInt8 := 0 :: 229 :: 32 :: 148 :: 156 :: 0 :: 14 :: 21 :: 4 :: 60 :: 42 :: 180 :: 0 :: 52 :: 180 :: 0 :: 229 :: 65 :: 132 :: 4 :: 1 :: 167 :: 255 :: 210 :: 27 :: 172 :: []
noncomputable def rb_prog_1_method_21_code_0 : List UInt8 := 3 :: 60 :: 9 :: 65 :: 3 :: 54 :: 4 :: 21 :: 4 :: 6 :: 162 :: 0 :: 46 :: 42 :: 21 :: 4 :: 3 :: 3 :: 3 :: 182 :: 0 :: 225 :: 21 :: 4 :: 153 :: 0 :: 15 :: 42 :: 180 :: 0 :: 52 :: 180 :: rb_prog_1_method_21_code_1
theorem rd_prog_1_method_21_code_0 : prog_1_method_21_code.data.toList.drop 0 = rb_prog_1_method_21_code_0 := by decide +kernel
theorem rd_prog_1_method_21_code_1 : prog_1_method_21_code.data.toList.drop 32 = rb_prog_1_method_21_code_1 := dst 32 rd_prog_1_method_21_code_0 rfl
noncomputable def rb_prog_1_method_22_code_1 : List UInt8 := 42 :: 180 :: 0 :: 59 :: 27 :: 182 :: 1 :: 4 :: 21 :: 4 :: 184 :: 0 :: 212 :: 173 :: []
noncomputable def rb_prog_1_method_22_code_0 : List UInt8 := 42 :: 27 :: 28 :: 29 :: 182 :: 0 :: 222 :: 54 :: 5 :: 21 :: 5 :: 153 :: 0 :: 7 :: 21 :: 5 :: 133 :: 173 :: 42 :: 182 :: 0 :: 253 :: 42 :: 180 :: 0 :: 59 :: 27 :: 28 :: 29 :: 182 :: 1 :: 0 :: rb_prog_1_method_22_code_1
theorem rd_prog_1_method_22_code_0 : prog_1_method_22_code.data.toList.drop 0 = rb_prog_1_method_22_code_0 := by decide +kernel
theorem rd_prog_1_method_22_code_1 : prog_1_method_22_code.data.toList.drop 32 = rb_prog_1_method_22_code_1 := dst 32 rd_prog_1_method_22_code_0 rfl
noncomputable def rb_prog_1_method_23_code_0 : List UInt8 := 42 :: 27 :: 28 :: 29 :: 182 :: 0 :: 222 :: 54 :: 4 :: 21 :: 4 :: 153 :: 0 :: 6 :: 21 :: 4 :: 172 :: 42 :: 182 :: 0 :: 253 :: 42 :: 180 :: 0 :: 59 :: 27 :: 28 :: 29 :: 182 :: 1 :: 6 :: 172 :: []
theorem rd_prog_1_method_23_code_0 : prog_1_method_23_code.data.toList.drop 0 = rb_prog_1_method_23_code_0 := by decide +kernel
noncomputable def rb_prog_1_method_24_code_1 : List UInt8 := 28 :: 172 :: 132 :: 2 :: 1 :: 167 :: 255 :: 235 :: 16 :: 247 :: 172 :: []
noncomputable def rb_prog_1_method_24_code_0 : List UInt8 := 42 :: 27 :: 182 :: 0 :: 143 :: 154 :: 0 :: 5 :: 2 :: 172 :: 42 :: 182 :: 0 :: 253 :: 3 :: 61 :: 28 :: 7 :: 163 :: 0 :: 22 :: 42 :: 27 :: 28 :: 182 :: 1 :: 9 :: 16 :: 247 :: 160 :: 0 :: 5 :: rb_prog_1_method_24_code_1
theorem rd_prog_1_method_24_code_0 : prog_1_method_24_code.data.toList.drop 0 = rb_prog_1_method_24_code_0 := by decide +kernel
theorem rd_prog_1_method_24_code_1 : prog_1_method_24_code.data.toList.drop 32 = rb_prog_1_method_24_code_1 := dst 32 rd_prog_1_method_24_code_0 rfl
noncomputable def rb_prog_1_method_25_code_1 : List UInt8 := 172 :: []
noncomputable def rb_prog_1_method_25_code_0 : List UInt8 := 42 :: 27 :: 182 :: 0 :: 143 :: 154 :: 0 :: 5 :: 2 :: 172 :: 28 :: 155 :: 0 :: 8 :: 28 :: 7 :: 164 :: 0 :: 6 :: 16 :: 254 :: 172 :: 42 :: 182 :: 0 :: 253 :: 42 :: 27 :: 28 :: 182 :: 1 :: 9 :: rb_prog_1_method_25_code_1
theorem rd_prog_1_method_25_code_0 : prog_1_method_25_code.data.toList.drop 0 = rb_prog_1_method_25_code_0 := by decide +kernel
theorem rd_prog_1_method_25_code_1 : prog_1_method_25_code.data.toList.drop 32 = rb_prog_1_method_25_code_1 := dst 32 rd_prog_1_method_25_code_0 rfl
noncomputable def rb_prog_1_method_26_code_2 : List UInt8 := 3 :: 182 :: 1 :: 4 :: 28 :: 184 :: 0 :: 212 :: 173 :: []
noncomputable def rb_prog_1_method_26_code_1 : List UInt8 := 0 :: 115 :: 42 :: 180 :: 0 :: 63 :: 42 :: 180 :: 0 :: 42 :: 182 :: 1 :: 12 :: 42 :: 27 :: 181 :: 0 :: 90 :: 42 :: 180 :: 0 :: 63 :: 3 :: 3 :: 3 :: 182 :: 1 :: 0 :: 42 :: 180 :: 0 :: 63 :: rb_prog_1_method_26_code_2
noncomputable def rb_prog_1_method_26_code_0 : List UInt8 := 27 :: 155 :: 0 :: 9 :: 27 :: 16 :: 15 :: 164 :: 0 :: 7 :: 20 :: 0 :: 205 :: 173 :: 42 :: 180 :: 0 :: 90 :: 27 :: 159 :: 0 :: 31 :: 42 :: 180 :: 0 :: 42 :: 42 :: 180 :: 0 :: 39 :: 27 :: 182 :: rb_prog_1_method_26_code_1
theorem rd_prog_1_method_26_code_0 : prog_1_method_26_code.data.toList.drop 0 = rb_prog_1_method_26_code_0 := by decide +kernel
theorem rd_prog_1_method_26_code_1 : prog_1_method_26_code.data.toList.drop 32 = rb_prog_1_method_26_code_1 := dst 32 rd_prog_1_method_26_code_0 rfl
theorem rd_prog_1_method_26_code_2 : prog_1_method_26_code.data.toList.drop 64 = rb_prog_1_method_26_code_2 := dst 32 rd_prog_1_method_26_code_1 rfl
noncomputable def rb_prog_1_method_27_code_1 : List UInt8 := 39 :: 27 :: 182 :: 1 :: 20 :: 172 :: []
noncomputable def rb_prog_1_method_27_code_0 : List UInt8 := 27 :: 156 :: 0 :: 6 :: 16 :: 254 :: 172 :: 42 :: 180 :: 0 :: 69 :: 42 :: 180 :: 0 :: 39 :: 27 :: 182 :: 1 :: 16 :: 154 :: 0 :: 6 :: 16 :: 253 :: 172 :: 42 :: 180 :: 0 :: 69 :: 42 :: 180 :: 0 :: rb_prog_1_method_27_code_1
theorem rd_prog_1_method_27_code_0 : prog_1_method_27_code.data.toList.drop 0 = rb_prog_1_method_27_code_0 := by decide +kernel
theorem rd_prog_1_method_27_code_1 : prog_1_method_27_code.data.toList.drop 32 = rb_prog_1_method_27_code_1 := dst 32 rd_prog_1_method_27_code_0 rfl
noncomputable def rb_prog_1_method_28_code_1 : List UInt8 := 27 :: 182 :: 1 :: 32 :: 42 :: 180 :: 0 :: 69 :: 180 :: 1 :: 35 :: 184 :: 1 :: 38 :: 172 :: []
noncomputable def rb_prog_1_method_28_code_0 : List UInt8 := 27 :: 184 :: 1 :: 24 :: 154 :: 0 :: 6 :: 16 :: 254 :: 172 :: 42 :: 180 :: 0 :: 69 :: 27 :: 182 :: 1 :: 29 :: 154 :: 0 :: 6 :: 16 :: 253 :: 172 :: 42 :: 180 :: 0 :: 69 :: 42 :: 180 :: 0 :: 39 :: rb_prog_1_method_28_code_1
theorem rd_prog_1_method_28_code_0 : prog_1_method_28_code.data.toList.drop 0 = rb_prog_1_method_28_code_0 := by decide +kernel
theorem rd_prog_1_method_28_code_1 : prog_1_method_28_code.data.toList.drop 32 = rb_prog_1_method_28_code_1 := dst 32 rd_prog_1_method_28_code_0 rfl
noncomputable def rb_prog_1_method_29_code_2 : List UInt8 := 180 :: 1 :: 47 :: 153 :: 0 :: 7 :: 4 :: 167 :: 0 :: 4 :: 3 :: 172 :: 42 :: 180 :: 0 :: 69 :: 180 :: 1 :: 50 :: 172 :: 16 :: 254 :: 172 :: []
noncomputable def rb_prog_1_method_29_code_1 : List UInt8 := 0 :: 0 :: 0 :: 75 :: 42 :: 180 :: 0 :: 69 :: 180 :: 1 :: 41 :: 172 :: 42 :: 180 :: 0 :: 69 :: 180 :: 1 :: 35 :: 172 :: 42 :: 180 :: 0 :: 69 :: 180 :: 1 :: 44 :: 172 :: 42 :: 180 :: 0 :: 69 :: rb_prog_1_method_29_code_2
noncomputable def rb_prog_1_method_29_code_0 : List UInt8 := 27 :: 170 :: 0 :: 0 :: 0 :: 0 :: 0 :: 83 :: 0 :: 0 :: 0 :: 0 :: 0 :: 0 :: 0 :: 4 :: 0 :: 0 :: 0 :: 35 :: 0 :: 0 :: 0 :: 43 :: 0 :: 0 :: 0 :: 51 :: 0 :: 0 :: 0 :: 59 :: rb_prog_1_method_29_code_1
theorem rd_prog_1_method_29_code_0 : prog_1_method_29_code.data.toList.drop 0 = rb_prog_1_method_29_code_0 := by decide +kernel
theorem rd_prog_1_method_29_code_1 : prog_1_method_29_code.data.toList.drop 32 = rb_prog_1_method_29_code_1 := dst 32 rd_prog_1_method_29_code_0 rfl
theorem rd_prog_1_method_29_code_2 : prog_1_method_29_code.data.toList.drop 64 = rb_prog_1_method_29_code_2 := dst 32 rd_prog_1_method_29_code_1 rfl
noncomputable def rb_prog_1_method_30_code_1 : List UInt8 := 0 :: 69 :: 182 :: 1 :: 59 :: 42 :: 180 :: 0 :: 79 :: 27 :: 4 :: 84 :: 28 :: 172 :: []
noncomputable def rb_prog_1_method_30_code_0 : List UInt8 := 42 :: 27 :: 182 :: 1 :: 52 :: 154 :: 0 :: 5 :: 2 :: 172 :: 42 :: 180 :: 0 :: 79 :: 27 :: 51 :: 153 :: 0 :: 7 :: 3 :: 167 :: 0 :: 4 :: 4 :: 61 :: 42 :: 27 :: 182 :: 1 :: 55 :: 42 :: 180 :: rb_prog_1_method_30_code_1
theorem rd_prog_1_method_30_code_0 : prog_1_method_30_code.data.toList.drop 0 = rb_prog_1_method_30_code_0 := by decide +kernel
theorem rd_prog_1_method_30_code_1 : prog_1_method_30_code.data.toList.drop 32 = rb_prog_1_method_30_code_1 := dst 32 rd_prog_1_method_30_code_0 rfl
noncomputable def rb_prog_1_method_31_code_1 : List UInt8 := 1 :: 59 :: 42 :: 180 :: 0 :: 69 :: 180 :: 1 :: 41 :: 172 :: []
noncomputable def rb_prog_1_method_31_code_0 : List UInt8 := 42 :: 27 :: 182 :: 1 :: 52 :: 154 :: 0 :: 5 :: 2 :: 172 :: 42 :: 180 :: 0 :: 79 :: 27 :: 51 :: 154 :: 0 :: 6 :: 16 :: 253 :: 172 :: 42 :: 180 :: 0 :: 69 :: 42 :: 27 :: 182 :: 1 :: 55 :: 182 :: rb_prog_1_method_31_code_1
theorem rd_prog_1_method_31_code_0 : prog_1_method_31_code.data.toList.drop 0 = rb_prog_1_method_31_code_0 := by decide +kernel
theorem rd_prog_1_method_31_code_1 : prog_1_method_31_code.data.toList.drop 32 = rb_prog_1_method_31_code_1 := dst 32 rd_prog_1_method_31_code_0 rfl
noncomputable def rb_prog_1_method_32_code_1 : List UInt8 := 16 :: 252 :: 172 :: 42 :: 180 :: 0 :: 86 :: 27 :: 28 :: 182 :: 1 :: 63 :: 42 :: 180 :: 0 :: 86 :: 180 :: 1 :: 62 :: 172 :: []
noncomputable def rb_prog_1_method_32_code_0 : List UInt8 := 27 :: 155 :: 0 :: 17 :: 27 :: 17 :: 39 :: 15 :: 163 :: 0 :: 10 :: 28 :: 184 :: 1 :: 24 :: 154 :: 0 :: 6 :: 16 :: 254 :: 172 :: 42 :: 180 :: 0 :: 86 :: 180 :: 1 :: 62 :: 8 :: 161 :: 0 :: 6 :: rb_prog_1_method_32_code_1
theorem rd_prog_1_method_32_code_0 : prog_1_method_32_code.data.toList.drop 0 = rb_prog_1_method_32_code_0 := by decide +kernel
theorem rd_prog_1_method_32_code_1 : prog_1_method_32_code.data.toList.drop 32 = rb_prog_1_method_32_code_1 := dst 32 rd_prog_1_method_32_code_0 rfl
noncomputable def rb_prog_1_method_33_code_0 : List UInt8 := 42 :: 180 :: 0 :: 86 :: 180 :: 1 :: 62 :: 60 :: 42 :: 180 :: 0 :: 86 :: 3 :: 181 :: 1 :: 62 :: 27 :: 172 :: []
theorem rd_prog_1_method_33_code_0 : prog_1_method_33_code.data.toList.drop 0 = rb_prog_1_method_33_code_0 := by decide +kernel
noncomputable def rb_prog_1_method_34_code_0 : List UInt8 := 42 :: 180 :: 0 :: 86 :: 42 :: 180 :: 0 :: 39 :: 182 :: 1 :: 65 :: 42 :: 180 :: 0 :: 86 :: 180 :: 1 :: 68 :: 172 :: []
theorem rd_prog_1_method_34_code_0 : prog_1_method_34_code.data.toList.drop 0 = rb_prog_1_method_34_code_0 := by decide +kernel
noncomputable def rb_prog_1_method_35_code_1 : List UInt8 := 180 :: 1 :: 71 :: 180 :: 1 :: 50 :: 172 :: []
noncomputable def rb_prog_1_method_35_code_0 : List UInt8 := 42 :: 180 :: 0 :: 86 :: 42 :: 180 :: 0 :: 39 :: 182 :: 1 :: 65 :: 42 :: 180 :: 0 :: 86 :: 180 :: 1 :: 68 :: 16 :: 247 :: 159 :: 0 :: 8 :: 16 :: 253 :: 167 :: 0 :: 13 :: 42 :: 180 :: 0 :: 86 :: rb_prog_1_method_35_code_1
theorem rd_prog_1_method_35_code_0 : prog_1_method_35_code.data.toList.drop 0 = rb_prog_1_method_35_code_0 := by decide +kernel
theorem rd_prog_1_method_35_code_1 : prog_1_method_35_code.data.toList.drop 32 = rb_prog_1_method_35_code_1 := dst 32 rd_prog_1_method_35_code_0 rfl
noncomputable def rb_prog_1_method_36_code_1 : List UInt8 := 86 :: 180 :: 1 :: 76 :: 42 :: 180 :: 0 :: 86 :: 180 :: 1 :: 79 :: 27 :: 184 :: 0 :: 212 :: 173 :: []
noncomputable def rb_prog_1_method_36_code_0 : List UInt8 := 42 :: 180 :: 0 :: 86 :: 42 :: 180 :: 0 :: 39 :: 182 :: 1 :: 65 :: 42 :: 180 :: 0 :: 86 :: 180 :: 1 :: 68 :: 16 :: 247 :: 159 :: 0 :: 9 :: 20 :: 1 :: 74 :: 167 :: 0 :: 21 :: 42 :: 180 :: 0 :: rb_prog_1_method_36_code_1
theorem rd_prog_1_method_36_code_0 : prog_1_method_36_code.data.toList.drop 0 = rb_prog_1_method_36_code_0 := by decide +kernel
theorem rd_prog_1_method_36_code_1 : prog_1_method_36_code.data.toList.drop 32 = rb_prog_1_method_36_code_1 := dst 32 rd_prog_1_method_36_code_0 rfl
noncomputable def rb_prog_1_method_37_code_1 : List UInt8 := 180 :: 1 :: 80 :: 172 :: []
noncomputable def rb_prog_1_method_37_code_0 : List UInt8 := 42 :: 180 :: 0 :: 86 :: 42 :: 180 :: 0 :: 39 :: 182 :: 1 :: 65 :: 42 :: 180 :: 0 :: 86 :: 180 :: 1 :: 68 :: 16 :: 247 :: 159 :: 0 :: 8 :: 16 :: 253 :: 167 :: 0 :: 10 :: 42 :: 180 :: 0 :: 86 :: rb_prog_1_method_37_code_1
theorem rd_prog_1_method_37_code_0 : prog_1_method_37_code.data.toList.drop 0 = rb_prog_1_method_37_code_0 := by decide +kernel
theorem rd_prog_1_method_37_code_1 : prog_1_method_37_code.data.toList.drop 32 = rb_prog_1_method_37_code_1 := dst 32 rd_prog_1_method_37_code_0 rfl
noncomputable def rb_prog_1_method_38_code_2 : List UInt8 := 180 :: 0 :: 39 :: 42 :: 180 :: 0 :: 39 :: 180 :: 0 :: 149 :: 182 :: 1 :: 83 :: 172 :: 16 :: 254 :: 172 :: []
noncomputable def rb_prog_1_method_38_code_1 : List UInt8 := 42 :: 180 :: 0 :: 10 :: 180 :: 0 :: 105 :: 172 :: 42 :: 180 :: 0 :: 86 :: 180 :: 1 :: 62 :: 172 :: 42 :: 180 :: 0 :: 39 :: 42 :: 180 :: 0 :: 39 :: 180 :: 0 :: 146 :: 182 :: 1 :: 83 :: 172 :: 42 :: rb_prog_1_method_38_code_2
noncomputable def rb_prog_1_method_38_code_0 : List UInt8 := 27 :: 170 :: 0 :: 0 :: 0 :: 0 :: 0 :: 77 :: 0 :: 0 :: 0 :: 0 :: 0 :: 0 :: 0 :: 3 :: 0 :: 0 :: 0 :: 31 :: 0 :: 0 :: 0 :: 39 :: 0 :: 0 :: 0 :: 47 :: 0 :: 0 :: 0 :: 62 :: rb_prog_1_method_38_code_1
theorem rd_prog_1_method_38_code_0 : prog_1_method_38_code.data.toList.drop 0 = rb_prog_1_method_38_code_0 := by decide +kernel
theorem rd_prog_1_method_38_code_1 : prog_1_method_38_code.data.toList.drop 32 = rb_prog_1_method_38_code_1 := dst 32 rd_prog_1_method_38_code_0 rfl
theorem rd_prog_1_method_38_code_2 : prog_1_method_38_code.data.toList.drop 64 = rb_prog_1_method_38_code_2 := dst 32 rd_prog_1_method_38_code_1 rfl
noncomputable def rb_prog_1_method_39_code_0 : List UInt8 := 27 :: 155 :: 0 :: 12 :: 27 :: 6 :: 162 :: 0 :: 7 :: 4 :: 167 :: 0 :: 4 :: 3 :: 172 :: []
theorem rd_prog_1_method_39_code_0 : prog_1_method_39_code.data.toList.drop 0 = rb_prog_1_method_39_code_0 := by decide +kernel
noncomputable def rb_prog_1_method_40_code_0 : List UInt8 := 27 :: 155 :: 0 :: 18 :: 27 :: 42 :: 180 :: 0 :: 39 :: 180 :: 0 :: 126 :: 162 :: 0 :: 7 :: 4 :: 167 :: 0 :: 4 :: 3 :: 172 :: []
theorem rd_prog_1_method_40_code_0 : prog_1_method_40_code.data.toList.drop 0 = rb_prog_1_method_40_code_0 := by decide +kernel
noncomputable def rb_prog_1_method_41_code_0 : List UInt8 := 27 :: 155 :: 0 :: 12 :: 27 :: 5 :: 162 :: 0 :: 7 :: 4 :: 167 :: 0 :: 4 :: 3 :: 172 :: []
theorem rd_prog_1_method_41_code_0 : prog_1_method_41_code.data.toList.drop 0 = rb_prog_1_method_41_code_0 := by decide +kernel
noncomputable def rb_prog_1_method_42_code_0 : List UInt8 := 27 :: 42 :: 180 :: 0 :: 39 :: 180 :: 0 :: 158 :: 184 :: 1 :: 87 :: 172 :: []
theorem rd_prog_1_method_42_code_0 : prog_1_method_42_code.data.toList.drop 0 = rb_prog_1_method_42_code_0 := by decide +kernel
noncomputable def rb_prog_1_method_43_code_2 : List UInt8 := 8 :: 22 :: 5 :: 167 :: 0 :: 5 :: 22 :: 7 :: 173 :: []
noncomputable def rb_prog_1_method_43_code_1 : List UInt8 := 113 :: 9 :: 148 :: 154 :: 0 :: 25 :: 22 :: 5 :: 20 :: 1 :: 91 :: 109 :: 55 :: 5 :: 22 :: 7 :: 20 :: 1 :: 91 :: 109 :: 55 :: 7 :: 132 :: 9 :: 1 :: 167 :: 255 :: 208 :: 21 :: 4 :: 153 :: 0 :: rb_prog_1_method_43_code_2
noncomputable def rb_prog_1_method_43_code_0 : List UInt8 := 30 :: 55 :: 5 :: 32 :: 55 :: 7 :: 3 :: 54 :: 9 :: 21 :: 9 :: 16 :: 20 :: 162 :: 0 :: 47 :: 22 :: 5 :: 20 :: 1 :: 91 :: 113 :: 9 :: 148 :: 154 :: 0 :: 36 :: 22 :: 7 :: 20 :: 1 :: 91 :: rb_prog_1_method_43_code_1
theorem rd_prog_1_method_43_code_0 : prog_1_method_43_code.data.toList.drop 0 = rb_prog_1_method_43_code_0 := by decide +kernel
theorem rd_prog_1_method_43_code_1 : prog_1_method_43_code.data.toList.drop 32 = rb_prog_1_method_43_code_1 := dst 32 rd_prog_1_method_43_code_0 rfl
theorem rd_prog_1_method_43_code_2 : prog_1_method_43_code.data.toList.drop 64 = rb_prog_1_method_43_code_2 := dst 32 rd_prog_1_method_43_code_1 rfl
noncomputable def rb_prog_1_method_44_code_0 : List UInt8 := 27 :: 154 :: 0 :: 10 :: 42 :: 180 :: 0 :: 73 :: 167 :: 0 :: 7 :: 42 :: 180 :: 0 :: 76 :: 176 :: []
theorem rd_prog_1_method_44_code_0 : prog_1_method_44_code.data.toList.drop 0 = rb_prog_1_method_44_code_0 := by decide +kernel
noncomputable def rb_prog_1_method_45_code_0 : List UInt8 := 42 :: 180 :: 0 :: 45 :: 27 :: 8 :: 104 :: 28 :: 96 :: 46 :: 172 :: []
theorem rd_prog_1_method_45_code_0 : prog_1_method_45_code.data.toList.drop 0 = rb_prog_1_method_45_code_0 := by decide +kernel
noncomputable def rb_prog_1_method_46_code_1 : List UInt8 := 6 :: 16 :: 254 :: 172 :: 3 :: 172 :: []
noncomputable def rb_prog_1_method_46_code_0 : List UInt8 := 42 :: 27 :: 182 :: 0 :: 143 :: 154 :: 0 :: 5 :: 2 :: 172 :: 42 :: 28 :: 182 :: 0 :: 202 :: 153 :: 0 :: 18 :: 29 :: 155 :: 0 :: 14 :: 29 :: 42 :: 180 :: 0 :: 39 :: 182 :: 1 :: 93 :: 164 :: 0 :: rb_prog_1_method_46_code_1
theorem rd_prog_1_method_46_code_0 : prog_1_method_46_code.data.toList.drop 0 = rb_prog_1_method_46_code_0 := by decide +kernel
theorem rd_prog_1_method_46_code_1 : prog_1_method_46_code.data.toList.drop 32 = rb_prog_1_method_46_code_1 := dst 32 rd_prog_1_method_46_code_0 rfl
noncomputable def rb_prog_1_method_47_code_1 : List UInt8 := 4 :: 182 :: 1 :: 96 :: 153 :: 0 :: 7 :: 3 :: 167 :: 0 :: 5 :: 16 :: 253 :: 172 :: []
noncomputable def rb_prog_1_method_47_code_0 : List UInt8 := 42 :: 27 :: 28 :: 29 :: 182 :: 0 :: 222 :: 54 :: 5 :: 21 :: 5 :: 153 :: 0 :: 6 :: 21 :: 5 :: 172 :: 21 :: 4 :: 156 :: 0 :: 6 :: 16 :: 254 :: 172 :: 42 :: 180 :: 0 :: 39 :: 27 :: 28 :: 21 :: rb_prog_1_method_47_code_1
theorem rd_prog_1_method_47_code_0 : prog_1_method_47_code.data.toList.drop 0 = rb_prog_1_method_47_code_0 := by decide +kernel
theorem rd_prog_1_method_47_code_1 : prog_1_method_47_code.data.toList.drop 32 = rb_prog_1_method_47_code_1 := dst 32 rd_prog_1_method_47_code_0 rfl
noncomputable def rb_prog_1_method_48_code_1 : List UInt8 := 1 :: 104 :: 42 :: 180 :: 0 :: 52 :: 42 :: 180 :: 0 :: 39 :: 182 :: 1 :: 107 :: 132 :: 3 :: 1 :: 167 :: 255 :: 218 :: 177 :: []
noncomputable def rb_prog_1_method_48_code_0 : List UInt8 := 42 :: 180 :: 0 :: 52 :: 3 :: 182 :: 1 :: 100 :: 3 :: 62 :: 29 :: 28 :: 162 :: 0 :: 39 :: 42 :: 180 :: 0 :: 52 :: 42 :: 180 :: 0 :: 39 :: 29 :: 42 :: 27 :: 29 :: 182 :: 0 :: 139 :: 3 :: 182 :: rb_prog_1_method_48_code_1
theorem rd_prog_1_method_48_code_0 : prog_1_method_48_code.data.toList.drop 0 = rb_prog_1_method_48_code_0 := by decide +kernel
theorem rd_prog_1_method_48_code_1 : prog_1_method_48_code.data.toList.drop 32 = rb_prog_1_method_48_code_1 := dst 32 rd_prog_1_method_48_code_0 rfl
noncomputable def rb_prog_1_method_49_code_0 : List UInt8 := 42 :: 27 :: 28 :: 182 :: 0 :: 246 :: 42 :: 180 :: 0 :: 52 :: 42 :: 180 :: 0 :: 39 :: 28 :: 42 :: 27 :: 28 :: 182 :: 0 :: 139 :: 3 :: 182 :: 1 :: 104 :: 177 :: []
theorem rd_prog_1_method_49_code_0 : prog_1_method_49_code.data.toList.drop 0 = rb_prog_1_method_49_code_0 := by decide +kernel
noncomputable def rb_prog_1_method_50_code_2 : List UInt8 := 1 :: 107 :: 132 :: 5 :: 1 :: 167 :: 255 :: 198 :: 42 :: 180 :: 0 :: 52 :: 42 :: 180 :: 0 :: 39 :: 182 :: 1 :: 109 :: 177 :: []
noncomputable def rb_prog_1_method_50_code_1 : List UInt8 := 5 :: 42 :: 27 :: 21 :: 5 :: 182 :: 0 :: 139 :: 21 :: 5 :: 28 :: 160 :: 0 :: 8 :: 21 :: 4 :: 167 :: 0 :: 4 :: 3 :: 182 :: 1 :: 104 :: 42 :: 180 :: 0 :: 52 :: 42 :: 180 :: 0 :: 39 :: 182 :: rb_prog_1_method_50_code_2
noncomputable def rb_prog_1_method_50_code_0 : List UInt8 := 42 :: 180 :: 0 :: 52 :: 29 :: 182 :: 1 :: 100 :: 28 :: 54 :: 5 :: 21 :: 5 :: 42 :: 180 :: 0 :: 39 :: 180 :: 0 :: 126 :: 162 :: 0 :: 52 :: 42 :: 180 :: 0 :: 52 :: 42 :: 180 :: 0 :: 39 :: 21 :: rb_prog_1_method_50_code_1
theorem rd_prog_1_method_50_code_0 : prog_1_method_50_code.data.toList.drop 0 = rb_prog_1_method_50_code_0 := by decide +kernel
theorem rd_prog_1_method_50_code_1 : prog_1_method_50_code.data.toList.drop 32 = rb_prog_1_method_50_code_1 := dst 32 rd_prog_1_method_50_code_0 rfl
theorem rd_prog_1_method_50_code_2 : prog_1_method_50_code.data.toList.drop 64 = rb_prog_1_method_50_code_2 := dst 32 rd_prog_1_method_50_code_1 rfl
noncomputable def rb_prog_1_method_51_code_0 : List UInt8 := 42 :: 180 :: 0 :: 119 :: 154 :: 0 :: 19 :: 42 :: 180 :: 0 :: 59 :: 42 :: 180 :: 0 :: 39 :: 182 :: 1 :: 12 :: 42 :: 4 :: 181 :: 0 :: 119 :: 177 :: []
theorem rd_prog_1_method_51_code_0 : prog_1_method_51_code.data.toList.drop 0 = rb_prog_1_method_51_code_0 := by decide +kernel
noncomputable def rb_prog_1_method_52_code_2 : List UInt8 := 132 :: 5 :: 1 :: 167 :: 255 :: 200 :: 16 :: 247 :: 172 :: []
noncomputable def rb_prog_1_method_52_code_1 : List UInt8 := 34 :: 42 :: 180 :: 0 :: 59 :: 27 :: 21 :: 6 :: 3 :: 182 :: 1 :: 6 :: 184 :: 1 :: 115 :: 42 :: 180 :: 0 :: 39 :: 27 :: 21 :: 6 :: 28 :: 182 :: 0 :: 216 :: 159 :: 0 :: 6 :: 21 :: 6 :: 172 :: rb_prog_1_method_52_code_2
noncomputable def rb_prog_1_method_52_code_0 : List UInt8 := 178 :: 1 :: 112 :: 78 :: 45 :: 190 :: 54 :: 4 :: 3 :: 54 :: 5 :: 21 :: 5 :: 21 :: 4 :: 162 :: 0 :: 55 :: 45 :: 21 :: 5 :: 46 :: 54 :: 6 :: 42 :: 21 :: 6 :: 182 :: 0 :: 202 :: 153 :: 0 :: rb_prog_1_method_52_code_1
theorem rd_prog_1_method_52_code_0 : prog_1_method_52_code.data.toList.drop 0 = rb_prog_1_method_52_code_0 := by decide +kernel
theorem rd_prog_1_method_52_code_1 : prog_1_method_52_code.data.toList.drop 32 = rb_prog_1_method_52_code_1 := dst 32 rd_prog_1_method_52_code_0 rfl
theorem rd_prog_1_method_52_code_2 : prog_1_method_52_code.data.toList.drop 64 = rb_prog_1_method_52_code_2 := dst 32 rd_prog_1_method_52_code_1 rfl
noncomputable def rb_prog_14_method_1_code_4 : List UInt8 := 188 :: 10 :: 181 :: 0 :: 57 :: 42 :: 8 :: 188 :: 10 :: 181 :: 0 :: 60 :: 42 :: 182 :: 0 :: 63 :: 42 :: 180 :: 0 :: 7 :: 3 :: 4 :: 79 :: 42 :: 182 :: 0 :: 66 :: 177 :: []
noncomputable def rb_prog_14_method_1_code_3 : List UInt8 := 17 :: 5 :: 220 :: 188 :: 10 :: 181 :: 0 :: 44 :: 42 :: 8 :: 188 :: 10 :: 181 :: 0 :: 47 :: 42 :: 5 :: 188 :: 4 :: 181 :: 0 :: 50 :: 42 :: 16 :: 14 :: 188 :: 10 :: 181 :: 0 :: 54 :: 42 :: 8 :: rb_prog_14_method_1_code_4
noncomputable def rb_prog_14_method_1_code_2 : List UInt8 := 188 :: 11 :: 181 :: 0 :: 32 :: 42 :: 16 :: 50 :: 188 :: 11 :: 181 :: 0 :: 35 :: 42 :: 17 :: 5 :: 220 :: 188 :: 11 :: 181 :: 0 :: 38 :: 42 :: 17 :: 5 :: 220 :: 188 :: 11 :: 181 :: 0 :: 41 :: 42 :: rb_prog_14_method_1_code_3
noncomputable def rb_prog_14_method_1_code_1 : List UInt8 := 10 :: 181 :: 0 :: 19 :: 42 :: 8 :: 188 :: 10 :: 181 :: 0 :: 22 :: 42 :: 17 :: 3 :: 232 :: 188 :: 11 :: 181 :: 0 :: 25 :: 42 :: 17 :: 3 :: 232 :: 188 :: 11 :: 181 :: 0 :: 29 :: 42 :: 16 :: 50 :: rb_prog_14_method_1_code_2
noncomputable def rb_prog_14_method_1_code_0 : List UInt8 := 42 :: 183 :: 0 :: 1 :: 42 :: 16 :: 26 :: 188 :: 10 :: 181 :: 0 :: 7 :: 42 :: 16 :: 26 :: 188 :: 10 :: 181 :: 0 :: 13 :: 42 :: 16 :: 64 :: 188 :: 10 :: 181 :: 0 :: 16 :: 42 :: 16 :: 15 :: 188 :: rb_prog_14_method_1_code_1
theorem rd_prog_14_method_1_code_0 : prog_14_method_1_code.data.toList.drop 0 = rb_prog_14_method_1_code_0 := by decide +kernel
theorem rd_prog_14_method_1_code_1 : prog_14_method_1_code.data.toList.drop 32 = rb_prog_14_method_1_code_1 := dst 32 rd_prog_14_method_1_code_0 rfl
theorem rd_prog_14_method_1_code_2 : prog_14_method_1_code.data.toList.drop 64 = rb_prog_14_method_1_code_2 := dst 32 rd_prog_14_method_1_code_1 rfl
theorem rd_prog_14_method_1_code_3 : prog_14_method_1_code.data.toList.drop 96 = rb_prog_14_method_1_code_3 := dst 32 rd_prog_14_method_1_code_2 rfl
theorem rd_prog_14_method_1_code_4 : prog_14_method_1_code.data.toList.drop 128 = rb_prog_14_method_1_code_4 := dst 32 rd_prog_14_method_1_code_3 rfl
noncomputable def rb_prog_14_method_3_code_0 : List UInt8 := 30 :: 32 :: 148 :: 155 :: 0 :: 14 :: 30 :: 22 :: 4 :: 148 :: 157 :: 0 :: 7 :: 4 :: 167 :: 0 :: 4 :: 3 :: 172 :: []
theorem rd_prog_14_method_3_code_0 : prog_14_method_3_code.data.toList.drop 0 = rb_prog_14_method_3_code_0 := by decide +kernel
noncomputable def rb_prog_14_method_4_code_3 : List UInt8 := 167 :: 255 :: 162 :: 42 :: 3 :: 181 :: 0 :: 85 :: 42 :: 3 :: 181 :: 0 :: 89 :: 42 :: 3 :: 181 :: 0 :: 92 :: 42 :: 3 :: 181 :: 0 :: 95 :: 42 :: 3 :: 181 :: 0 :: 98 :: 177 :: []
noncomputable def rb_prog_14_method_4_code_2 : List UInt8 := 0 :: 73 :: 153 :: 0 :: 7 :: 4 :: 167 :: 0 :: 22 :: 27 :: 133 :: 20 :: 0 :: 81 :: 20 :: 0 :: 83 :: 184 :: 0 :: 73 :: 153 :: 0 :: 7 :: 7 :: 167 :: 0 :: 4 :: 3 :: 79 :: 132 :: 1 :: 1 :: rb_prog_14_method_4_code_3
noncomputable def rb_prog_14_method_4_code_1 : List UInt8 := 4 :: 167 :: 0 :: 59 :: 27 :: 133 :: 20 :: 0 :: 69 :: 20 :: 0 :: 71 :: 184 :: 0 :: 73 :: 153 :: 0 :: 8 :: 16 :: 247 :: 167 :: 0 :: 40 :: 27 :: 133 :: 20 :: 0 :: 77 :: 20 :: 0 :: 79 :: 184 :: rb_prog_14_method_4_code_2
noncomputable def rb_prog_14_method_4_code_0 : List UInt8 := 3 :: 60 :: 27 :: 16 :: 26 :: 162 :: 0 :: 94 :: 42 :: 180 :: 0 :: 7 :: 27 :: 27 :: 4 :: 160 :: 0 :: 7 :: 5 :: 167 :: 0 :: 73 :: 27 :: 5 :: 159 :: 0 :: 8 :: 27 :: 6 :: 160 :: 0 :: 7 :: rb_prog_14_method_4_code_1
theorem rd_prog_14_method_4_code_0 : prog_14_method_4_code.data.toList.drop 0 = rb_prog_14_method_4_code_0 := by decide +kernel
theorem rd_prog_14_method_4_code_1 : prog_14_method_4_code.data.toList.drop 32 = rb_prog_14_method_4_code_1 := dst 32 rd_prog_14_method_4_code_0 rfl
theorem rd_prog_14_method_4_code_2 : prog_14_method_4_code.data.toList.drop 64 = rb_prog_14_method_4_code_2 := dst 32 rd_prog_14_method_4_code_1 rfl
theorem rd_prog_14_method_4_code_3 : prog_14_method_4_code.data.toList.drop 96 = rb_prog_14_method_4_code_3 := dst 32 rd_prog_14_method_4_code_2 rfl
noncomputable def rb_prog_14_method_5_code_0 : List UInt8 := 3 :: 60 :: 27 :: 16 :: 26 :: 162 :: 0 :: 21 :: 42 :: 180 :: 0 :: 13 :: 27 :: 42 :: 180 :: 0 :: 7 :: 27 :: 46 :: 79 :: 132 :: 1 :: 1 :: 167 :: 255 :: 235 :: 177 :: []
theorem rd_prog_14_method_5_code_0 : prog_14_method_5_code.data.toList.drop 0 = rb_prog_14_method_5_code_0 := by decide +kernel
noncomputable def rb_prog_14_method_6_code_2 : List UInt8 := 103 :: 4 :: 96 :: 181 :: 0 :: 103 :: 132 :: 4 :: 255 :: 167 :: 255 :: 217 :: 42 :: 180 :: 0 :: 103 :: 172 :: []
noncomputable def rb_prog_14_method_6_code_1 : List UInt8 := 54 :: 4 :: 21 :: 4 :: 155 :: 0 :: 40 :: 42 :: 180 :: 0 :: 16 :: 42 :: 180 :: 0 :: 103 :: 32 :: 16 :: 8 :: 21 :: 4 :: 104 :: 123 :: 20 :: 0 :: 106 :: 127 :: 136 :: 79 :: 42 :: 89 :: 180 :: 0 :: rb_prog_14_method_6_code_2
noncomputable def rb_prog_14_method_6_code_0 : List UInt8 := 27 :: 133 :: 10 :: 20 :: 0 :: 101 :: 184 :: 0 :: 73 :: 154 :: 0 :: 6 :: 16 :: 254 :: 172 :: 42 :: 180 :: 0 :: 103 :: 27 :: 96 :: 16 :: 64 :: 164 :: 0 :: 6 :: 16 :: 252 :: 172 :: 27 :: 4 :: 100 :: rb_prog_14_method_6_code_1
theorem rd_prog_14_method_6_code_0 : prog_14_method_6_code.data.toList.drop 0 = rb_prog_14_method_6_code_0 := by decide +kernel
theorem rd_prog_14_method_6_code_1 : prog_14_method_6_code.data.toList.drop 32 = rb_prog_14_method_6_code_1 := dst 32 rd_prog_14_method_6_code_0 rfl
theorem rd_prog_14_method_6_code_2 : prog_14_method_6_code.data.toList.drop 64 = rb_prog_14_method_6_code_2 := dst 32 rd_prog_14_method_6_code_1 rfl
noncomputable def rb_prog_14_method_7_code_0 : List UInt8 := 42 :: 180 :: 0 :: 103 :: 60 :: 42 :: 3 :: 181 :: 0 :: 103 :: 27 :: 172 :: []
theorem rd_prog_14_method_7_code_0 : prog_14_method_7_code.data.toList.drop 0 = rb_prog_14_method_7_code_0 := by decide +kernel
noncomputable def rb_prog_14_method_8_code_0 : List UInt8 := 42 :: 42 :: 180 :: 0 :: 108 :: 16 :: 247 :: 160 :: 0 :: 10 :: 42 :: 180 :: 0 :: 111 :: 167 :: 0 :: 7 :: 42 :: 180 :: 0 :: 108 :: 181 :: 0 :: 108 :: 177 :: []
theorem rd_prog_14_method_8_code_0 : prog_14_method_8_code.data.toList.drop 0 = rb_prog_14_method_8_code_0 := by decide +kernel
noncomputable def rb_prog_14_method_9_code_2 : List UInt8 := 89 :: 180 :: 0 :: 111 :: 4 :: 96 :: 181 :: 0 :: 111 :: 28 :: 172 :: []
noncomputable def rb_prog_14_method_9_code_1 : List UInt8 := 167 :: 0 :: 4 :: 2 :: 61 :: 28 :: 133 :: 9 :: 20 :: 0 :: 114 :: 184 :: 0 :: 73 :: 153 :: 0 :: 11 :: 27 :: 28 :: 122 :: 4 :: 126 :: 154 :: 0 :: 9 :: 42 :: 182 :: 0 :: 116 :: 3 :: 172 :: 42 :: rb_prog_14_method_9_code_2
noncomputable def rb_prog_14_method_9_code_0 : List UInt8 := 42 :: 180 :: 0 :: 108 :: 16 :: 247 :: 160 :: 0 :: 29 :: 42 :: 180 :: 0 :: 111 :: 42 :: 180 :: 0 :: 103 :: 162 :: 0 :: 18 :: 42 :: 180 :: 0 :: 16 :: 42 :: 180 :: 0 :: 111 :: 46 :: 16 :: 48 :: 100 :: rb_prog_14_method_9_code_1
theorem rd_prog_14_method_9_code_0 : prog_14_method_9_code.data.toList.drop 0 = rb_prog_14_method_9_code_0 := by decide +kernel
theorem rd_prog_14_method_9_code_1 : prog_14_method_9_code.data.toList.drop 32 = rb_prog_14_method_9_code_1 := dst 32 rd_prog_14_method_9_code_0 rfl
theorem rd_prog_14_method_9_code_2 : prog_14_method_9_code.data.toList.drop 64 = rb_prog_14_method_9_code_2 := dst 32 rd_prog_14_method_9_code_1 rfl
noncomputable def rb_prog_14_method_10_code_2 : List UInt8 := 111 :: 42 :: 180 :: 0 :: 103 :: 162 :: 0 :: 19 :: 42 :: 42 :: 180 :: 0 :: 16 :: 42 :: 180 :: 0 :: 111 :: 46 :: 182 :: 0 :: 123 :: 167 :: 255 :: 223 :: 42 :: 180 :: 0 :: 108 :: 172 :: []
noncomputable def rb_prog_14_method_10_code_1 : List UInt8 := 5 :: 3 :: 172 :: 42 :: 4 :: 181 :: 0 :: 111 :: 42 :: 180 :: 0 :: 7 :: 3 :: 42 :: 16 :: 62 :: 182 :: 0 :: 119 :: 79 :: 42 :: 180 :: 0 :: 108 :: 16 :: 247 :: 160 :: 0 :: 30 :: 42 :: 180 :: 0 :: rb_prog_14_method_10_code_2
noncomputable def rb_prog_14_method_10_code_0 : List UInt8 := 42 :: 182 :: 0 :: 63 :: 42 :: 3 :: 181 :: 0 :: 111 :: 42 :: 16 :: 247 :: 181 :: 0 :: 108 :: 42 :: 180 :: 0 :: 103 :: 153 :: 0 :: 14 :: 42 :: 180 :: 0 :: 16 :: 3 :: 46 :: 16 :: 78 :: 159 :: 0 :: rb_prog_14_method_10_code_1
theorem rd_prog_14_method_10_code_0 : prog_14_method_10_code.data.toList.drop 0 = rb_prog_14_method_10_code_0 := by decide +kernel
theorem rd_prog_14_method_10_code_1 : prog_14_method_10_code.data.toList.drop 32 = rb_prog_14_method_10_code_1 := dst 32 rd_prog_14_method_10_code_0 rfl
theorem rd_prog_14_method_10_code_2 : prog_14_method_10_code.data.toList.drop 64 = rb_prog_14_method_10_code_2 := dst 32 rd_prog_14_method_10_code_1 rfl
noncomputable def rb_prog_14_method_11_code_2 : List UInt8 := 0 :: 8 :: 16 :: 6 :: 167 :: 0 :: 5 :: 16 :: 247 :: 172 :: []
noncomputable def rb_prog_14_method_11_code_1 : List UInt8 := 71 :: 160 :: 0 :: 7 :: 6 :: 167 :: 0 :: 36 :: 26 :: 16 :: 84 :: 160 :: 0 :: 7 :: 7 :: 167 :: 0 :: 26 :: 26 :: 16 :: 65 :: 160 :: 0 :: 7 :: 8 :: 167 :: 0 :: 16 :: 26 :: 16 :: 66 :: 160 :: rb_prog_14_method_11_code_2
noncomputable def rb_prog_14_method_11_code_0 : List UInt8 := 26 :: 16 :: 72 :: 160 :: 0 :: 7 :: 3 :: 167 :: 0 :: 66 :: 26 :: 16 :: 80 :: 160 :: 0 :: 7 :: 4 :: 167 :: 0 :: 56 :: 26 :: 16 :: 83 :: 160 :: 0 :: 7 :: 5 :: 167 :: 0 :: 46 :: 26 :: 16 :: rb_prog_14_method_11_code_1
theorem rd_prog_14_method_11_code_0 : prog_14_method_11_code.data.toList.drop 0 = rb_prog_14_method_11_code_0 := by decide +kernel
theorem rd_prog_14_method_11_code_1 : prog_14_method_11_code.data.toList.drop 32 = rb_prog_14_method_11_code_1 := dst 32 rd_prog_14_method_11_code_0 rfl
theorem rd_prog_14_method_11_code_2 : prog_14_method_11_code.data.toList.drop 64 = rb_prog_14_method_11_code_2 := dst 32 rd_prog_14_method_11_code_1 rfl
noncomputable def rb_prog_14_method_12_code_12 : List UInt8 := 0 :: 98 :: 42 :: 180 :: 0 :: 7 :: 16 :: 23 :: 21 :: 4 :: 96 :: 42 :: 17 :: 3 :: 255 :: 182 :: 0 :: 119 :: 79 :: 167 :: 0 :: 7 :: 42 :: 182 :: 0 :: 116 :: 177 :: []
noncomputable def rb_prog_14_method_12_code_11 : List UInt8 := 111 :: 4 :: 96 :: 181 :: 0 :: 111 :: 42 :: 16 :: 7 :: 42 :: 180 :: 0 :: 98 :: 2 :: 130 :: 126 :: 182 :: 0 :: 119 :: 54 :: 4 :: 42 :: 89 :: 180 :: 0 :: 98 :: 4 :: 21 :: 4 :: 120 :: 128 :: 181 :: rb_prog_14_method_12_code_12
noncomputable def rb_prog_14_method_12_code_10 : List UInt8 := 21 :: 4 :: 96 :: 42 :: 16 :: 63 :: 182 :: 0 :: 119 :: 79 :: 167 :: 0 :: 80 :: 27 :: 16 :: 68 :: 160 :: 0 :: 70 :: 42 :: 180 :: 0 :: 98 :: 16 :: 7 :: 159 :: 0 :: 61 :: 42 :: 89 :: 180 :: 0 :: rb_prog_14_method_12_code_11
noncomputable def rb_prog_14_method_12_code_9 : List UInt8 := 7 :: 42 :: 180 :: 0 :: 95 :: 2 :: 130 :: 126 :: 182 :: 0 :: 119 :: 54 :: 4 :: 42 :: 89 :: 180 :: 0 :: 95 :: 4 :: 21 :: 4 :: 120 :: 128 :: 181 :: 0 :: 95 :: 42 :: 180 :: 0 :: 7 :: 16 :: 20 :: rb_prog_14_method_12_code_10
noncomputable def rb_prog_14_method_12_code_8 : List UInt8 := 119 :: 79 :: 167 :: 0 :: 152 :: 27 :: 16 :: 81 :: 160 :: 0 :: 69 :: 42 :: 180 :: 0 :: 95 :: 16 :: 7 :: 159 :: 0 :: 60 :: 42 :: 89 :: 180 :: 0 :: 111 :: 4 :: 96 :: 181 :: 0 :: 111 :: 42 :: 16 :: rb_prog_14_method_12_code_9
noncomputable def rb_prog_14_method_12_code_7 : List UInt8 := 182 :: 0 :: 119 :: 54 :: 4 :: 42 :: 89 :: 180 :: 0 :: 92 :: 4 :: 21 :: 4 :: 120 :: 128 :: 181 :: 0 :: 92 :: 42 :: 180 :: 0 :: 7 :: 16 :: 15 :: 21 :: 4 :: 96 :: 42 :: 16 :: 31 :: 182 :: 0 :: rb_prog_14_method_12_code_8
noncomputable def rb_prog_14_method_12_code_6 : List UInt8 := 16 :: 79 :: 160 :: 0 :: 67 :: 42 :: 180 :: 0 :: 92 :: 28 :: 159 :: 0 :: 59 :: 42 :: 89 :: 180 :: 0 :: 111 :: 4 :: 96 :: 181 :: 0 :: 111 :: 42 :: 28 :: 42 :: 180 :: 0 :: 92 :: 2 :: 130 :: 126 :: rb_prog_14_method_12_code_7
noncomputable def rb_prog_14_method_12_code_5 : List UInt8 := 182 :: 0 :: 119 :: 54 :: 5 :: 42 :: 180 :: 0 :: 7 :: 16 :: 10 :: 21 :: 4 :: 96 :: 16 :: 10 :: 21 :: 5 :: 104 :: 42 :: 17 :: 3 :: 255 :: 182 :: 0 :: 119 :: 96 :: 79 :: 167 :: 0 :: 222 :: 27 :: rb_prog_14_method_12_code_6
noncomputable def rb_prog_14_method_12_code_4 : List UInt8 := 111 :: 42 :: 28 :: 42 :: 180 :: 0 :: 89 :: 2 :: 130 :: 126 :: 182 :: 0 :: 119 :: 54 :: 4 :: 42 :: 89 :: 180 :: 0 :: 89 :: 4 :: 21 :: 4 :: 120 :: 128 :: 181 :: 0 :: 89 :: 42 :: 17 :: 3 :: 255 :: rb_prog_14_method_12_code_5
noncomputable def rb_prog_14_method_12_code_3 : List UInt8 := 16 :: 63 :: 182 :: 0 :: 119 :: 79 :: 167 :: 1 :: 52 :: 27 :: 16 :: 87 :: 160 :: 0 :: 83 :: 42 :: 180 :: 0 :: 89 :: 28 :: 159 :: 0 :: 75 :: 42 :: 89 :: 180 :: 0 :: 111 :: 4 :: 96 :: 181 :: 0 :: rb_prog_14_method_12_code_4
noncomputable def rb_prog_14_method_12_code_2 : List UInt8 := 6 :: 17 :: 3 :: 255 :: 182 :: 0 :: 119 :: 54 :: 4 :: 42 :: 180 :: 0 :: 7 :: 29 :: 4 :: 96 :: 21 :: 4 :: 79 :: 29 :: 16 :: 6 :: 160 :: 0 :: 16 :: 42 :: 180 :: 0 :: 7 :: 16 :: 8 :: 42 :: rb_prog_14_method_12_code_3
noncomputable def rb_prog_14_method_12_code_1 : List UInt8 := 75 :: 42 :: 89 :: 180 :: 0 :: 111 :: 4 :: 96 :: 181 :: 0 :: 111 :: 42 :: 89 :: 180 :: 0 :: 85 :: 4 :: 29 :: 120 :: 128 :: 181 :: 0 :: 85 :: 42 :: 29 :: 154 :: 0 :: 8 :: 16 :: 30 :: 167 :: 0 :: rb_prog_14_method_12_code_2
noncomputable def rb_prog_14_method_12_code_0 : List UInt8 := 4 :: 42 :: 180 :: 0 :: 7 :: 3 :: 46 :: 120 :: 4 :: 100 :: 61 :: 27 :: 184 :: 0 :: 127 :: 62 :: 29 :: 16 :: 247 :: 159 :: 0 :: 86 :: 42 :: 180 :: 0 :: 85 :: 29 :: 122 :: 4 :: 126 :: 154 :: 0 :: rb_prog_14_method_12_code_1
theorem rd_prog_14_method_12_code_0 : prog_14_method_12_code.data.toList.drop 0 = rb_prog_14_method_12_code_0 := by decide +kernel
theorem rd_prog_14_method_12_code_1 : prog_14_method_12_code.data.toList.drop 32 = rb_prog_14_method_12_code_1 := dst 32 rd_prog_14_method_12_code_0 rfl
theorem rd_prog_14_method_12_code_2 : prog_14_method_12_code.data.toList.drop 64 = rb_prog_14_method_12_code_2 := dst 32 rd_prog_14_method_12_code_1 rfl
theorem rd_prog_14_method_12_code_3 : prog_14_method_12_code.data.toList.drop 96 = rb_prog_14_method_12_code_3 := dst 32 rd_prog_14_method_12_code_2 rfl
theorem rd_prog_14_method_12_code_4 : prog_14_method_12_code.data.toList.drop 128 = rb_prog_14_method_12_code_4 := dst 32 rd_prog_14_method_12_code_3 rfl
theorem rd_prog_14_method_12_code_5 : prog_14_method_12_code.data.toList.drop 160 = rb_prog_14_method_12_code_5 := dst 32 rd_prog_14_method_12_code_4 rfl
theorem rd_prog_14_method_12_code_6 : prog_14_method_12_code.data.toList.drop 192 = rb_prog_14_method_12_code_6 := dst 32 rd_prog_14_method_12_code_5 rfl
theorem rd_prog_14_method_12_code_7 : prog_14_method_12_code.data.toList.drop 224 = rb_prog_14_method_12_code_7 := dst 32 rd_prog_14_method_12_code_6 rfl
theorem rd_prog_14_method_12_code_8 : prog_14_method_12_code.data.toList.drop 256 = rb_prog_14_method_12_code_8 := dst 32 rd_prog_14_method_12_code_7 rfl
theorem rd_prog_14_method_12_code_9 : prog_14_method_12_code.data.toList.drop 288 = rb_prog_14_method_12_code_9 := dst 32 rd_prog_14_method_12_code_8 rfl
theorem rd_prog_14_method_12_code_10 : prog_14_method_12_code.data.toList.drop 320 = rb_prog_14_method_12_code_10 := dst 32 rd_prog_14_method_12_code_9 rfl
theorem rd_prog_14_method_12_code_11 : prog_14_method_12_code.data.toList.drop 352 = rb_prog_14_method_12_code_11 := dst 32 rd_prog_14_method_12_code_10 rfl
theorem rd_prog_14_method_12_code_12 : prog_14_method_12_code.data.toList.drop 384 = rb_prog_14_method_12_code_12 := dst 32 rd_prog_14_method_12_code_11 rfl
noncomputable def rb_prog_14_method_13_code_6 : List UInt8 := 16 :: 247 :: 160 :: 0 :: 18 :: 42 :: 180 :: 0 :: 111 :: 42 :: 180 :: 0 :: 103 :: 162 :: 0 :: 7 :: 42 :: 182 :: 0 :: 116 :: 42 :: 180 :: 0 :: 108 :: 172 :: []
noncomputable def rb_prog_14_method_13_code_5 : List UInt8 := 22 :: 29 :: 27 :: 29 :: 122 :: 4 :: 126 :: 4 :: 160 :: 0 :: 7 :: 28 :: 167 :: 0 :: 9 :: 42 :: 180 :: 0 :: 22 :: 29 :: 46 :: 79 :: 132 :: 3 :: 1 :: 167 :: 255 :: 223 :: 42 :: 180 :: 0 :: 108 :: rb_prog_14_method_13_code_6
noncomputable def rb_prog_14_method_13_code_4 : List UInt8 := 180 :: 0 :: 111 :: 4 :: 96 :: 181 :: 0 :: 111 :: 167 :: 0 :: 7 :: 42 :: 182 :: 0 :: 116 :: 42 :: 16 :: 31 :: 182 :: 0 :: 119 :: 61 :: 3 :: 62 :: 29 :: 8 :: 162 :: 0 :: 34 :: 42 :: 180 :: 0 :: rb_prog_14_method_13_code_5
noncomputable def rb_prog_14_method_13_code_3 : List UInt8 := 16 :: 247 :: 160 :: 0 :: 41 :: 42 :: 180 :: 0 :: 111 :: 42 :: 180 :: 0 :: 103 :: 162 :: 0 :: 30 :: 42 :: 180 :: 0 :: 16 :: 42 :: 180 :: 0 :: 111 :: 46 :: 16 :: 76 :: 160 :: 0 :: 16 :: 42 :: 89 :: rb_prog_14_method_13_code_4
noncomputable def rb_prog_14_method_13_code_2 : List UInt8 := 130 :: 126 :: 60 :: 42 :: 180 :: 0 :: 22 :: 28 :: 42 :: 16 :: 31 :: 182 :: 0 :: 119 :: 79 :: 42 :: 89 :: 180 :: 0 :: 130 :: 4 :: 96 :: 181 :: 0 :: 130 :: 167 :: 255 :: 186 :: 42 :: 180 :: 0 :: 108 :: rb_prog_14_method_13_code_3
noncomputable def rb_prog_14_method_13_code_1 : List UInt8 := 42 :: 180 :: 0 :: 103 :: 162 :: 0 :: 56 :: 42 :: 180 :: 0 :: 16 :: 42 :: 180 :: 0 :: 111 :: 46 :: 16 :: 76 :: 159 :: 0 :: 42 :: 42 :: 27 :: 182 :: 0 :: 119 :: 61 :: 27 :: 4 :: 28 :: 120 :: 2 :: rb_prog_14_method_13_code_2
noncomputable def rb_prog_14_method_13_code_0 : List UInt8 := 42 :: 3 :: 181 :: 0 :: 111 :: 42 :: 16 :: 247 :: 181 :: 0 :: 108 :: 42 :: 3 :: 181 :: 0 :: 130 :: 16 :: 31 :: 60 :: 42 :: 180 :: 0 :: 108 :: 16 :: 247 :: 160 :: 0 :: 67 :: 42 :: 180 :: 0 :: 111 :: rb_prog_14_method_13_code_1
theorem rd_prog_14_method_13_code_0 : prog_14_method_13_code.data.toList.drop 0 = rb_prog_14_method_13_code_0 := by decide +kernel
theorem rd_prog_14_method_13_code_1 : prog_14_method_13_code.data.toList.drop 32 = rb_prog_14_method_13_code_1 := dst 32 rd_prog_14_method_13_code_0 rfl
theorem rd_prog_14_method_13_code_2 : prog_14_method_13_code.data.toList.drop 64 = rb_prog_14_method_13_code_2 := dst 32 rd_prog_14_method_13_code_1 rfl
theorem rd_prog_14_method_13_code_3 : prog_14_method_13_code.data.toList.drop 96 = rb_prog_14_method_13_code_3 := dst 32 rd_prog_14_method_13_code_2 rfl
theorem rd_prog_14_method_13_code_4 : prog_14_method_13_code.data.toList.drop 128 = rb_prog_14_method_13_code_4 := dst 32 rd_prog_14_method_13_code_3 rfl
theorem rd_prog_14_method_13_code_5 : prog_14_method_13_code.data.toList.drop 160 = rb_prog_14_method_13_code_5 := dst 32 rd_prog_14_method_13_code_4 rfl
theorem rd_prog_14_method_13_code_6 : prog_14_method_13_code.data.toList.drop 192 = rb_prog_14_method_13_code_6 := dst 32 rd_prog_14_method_13_code_5 rfl
noncomputable def rb_prog_14_method_14_code_0 : List UInt8 := 27 :: 153 :: 0 :: 10 :: 42 :: 182 :: 0 :: 133 :: 167 :: 0 :: 7 :: 42 :: 182 :: 0 :: 137 :: 172 :: []
theorem rd_prog_14_method_14_code_0 : prog_14_method_14_code.data.toList.drop 0 = rb_prog_14_method_14_code_0 := by decide +kernel
noncomputable def rb_prog_14_method_15_code_2 : List UInt8 := 3 :: 46 :: 172 :: []
noncomputable def rb_prog_14_method_15_code_1 : List UInt8 := 27 :: 8 :: 162 :: 0 :: 16 :: 42 :: 180 :: 0 :: 47 :: 27 :: 3 :: 79 :: 132 :: 1 :: 1 :: 167 :: 255 :: 241 :: 42 :: 3 :: 181 :: 0 :: 140 :: 42 :: 3 :: 181 :: 0 :: 143 :: 42 :: 180 :: 0 :: 13 :: rb_prog_14_method_15_code_2
noncomputable def rb_prog_14_method_15_code_0 : List UInt8 := 42 :: 182 :: 0 :: 137 :: 16 :: 247 :: 159 :: 0 :: 6 :: 16 :: 253 :: 172 :: 42 :: 182 :: 0 :: 66 :: 42 :: 180 :: 0 :: 50 :: 3 :: 3 :: 84 :: 42 :: 180 :: 0 :: 50 :: 4 :: 3 :: 84 :: 3 :: 60 :: rb_prog_14_method_15_code_1
theorem rd_prog_14_method_15_code_0 : prog_14_method_15_code.data.toList.drop 0 = rb_prog_14_method_15_code_0 := by decide +kernel
theorem rd_prog_14_method_15_code_1 : prog_14_method_15_code.data.toList.drop 32 = rb_prog_14_method_15_code_1 := dst 32 rd_prog_14_method_15_code_0 rfl
theorem rd_prog_14_method_15_code_2 : prog_14_method_15_code.data.toList.drop 64 = rb_prog_14_method_15_code_2 := dst 32 rd_prog_14_method_15_code_1 rfl
noncomputable def rb_prog_14_method_16_code_0 : List UInt8 := 26 :: 133 :: 9 :: 20 :: 0 :: 146 :: 184 :: 0 :: 73 :: 172 :: []
theorem rd_prog_14_method_16_code_0 : prog_14_method_16_code.data.toList.drop 0 = rb_prog_14_method_16_code_0 := by decide +kernel
noncomputable def rb_prog_14_method_17_code_1 : List UInt8 := 8 :: 27 :: 104 :: 28 :: 96 :: 42 :: 180 :: 0 :: 22 :: 28 :: 46 :: 79 :: 132 :: 2 :: 1 :: 167 :: 255 :: 232 :: 42 :: 180 :: 0 :: 130 :: 172 :: []
noncomputable def rb_prog_14_method_17_code_0 : List UInt8 := 27 :: 184 :: 0 :: 148 :: 154 :: 0 :: 5 :: 2 :: 172 :: 42 :: 182 :: 0 :: 133 :: 16 :: 247 :: 159 :: 0 :: 6 :: 16 :: 253 :: 172 :: 3 :: 61 :: 28 :: 8 :: 162 :: 0 :: 25 :: 42 :: 180 :: 0 :: 19 :: rb_prog_14_method_17_code_1
theorem rd_prog_14_method_17_code_0 : prog_14_method_17_code.data.toList.drop 0 = rb_prog_14_method_17_code_0 := by decide +kernel
theorem rd_prog_14_method_17_code_1 : prog_14_method_17_code.data.toList.drop 32 = rb_prog_14_method_17_code_1 := dst 32 rd_prog_14_method_17_code_0 rfl
noncomputable def rb_prog_14_method_18_code_1 : List UInt8 := 2 :: 172 :: []
noncomputable def rb_prog_14_method_18_code_0 : List UInt8 := 27 :: 184 :: 0 :: 148 :: 153 :: 0 :: 28 :: 28 :: 133 :: 9 :: 20 :: 0 :: 69 :: 184 :: 0 :: 73 :: 153 :: 0 :: 16 :: 42 :: 180 :: 0 :: 19 :: 8 :: 27 :: 104 :: 28 :: 96 :: 46 :: 167 :: 0 :: 4 :: rb_prog_14_method_18_code_1
theorem rd_prog_14_method_18_code_0 : prog_14_method_18_code.data.toList.drop 0 = rb_prog_14_method_18_code_0 := by decide +kernel
theorem rd_prog_14_method_18_code_1 : prog_14_method_18_code.data.toList.drop 32 = rb_prog_14_method_18_code_1 := dst 32 rd_prog_14_method_18_code_0 rfl
noncomputable def rb_prog_14_method_19_code_0 : List UInt8 := 27 :: 133 :: 9 :: 42 :: 180 :: 0 :: 13 :: 3 :: 46 :: 4 :: 100 :: 133 :: 184 :: 0 :: 73 :: 172 :: []
theorem rd_prog_14_method_19_code_0 : prog_14_method_19_code.data.toList.drop 0 = rb_prog_14_method_19_code_0 := by decide +kernel
noncomputable def rb_prog_14_method_20_code_1 : List UInt8 := 180 :: 0 :: 13 :: 16 :: 15 :: 27 :: 96 :: 46 :: 167 :: 0 :: 5 :: 16 :: 254 :: 172 :: []
noncomputable def rb_prog_14_method_20_code_0 : List UInt8 := 42 :: 27 :: 182 :: 0 :: 152 :: 154 :: 0 :: 5 :: 2 :: 172 :: 28 :: 154 :: 0 :: 15 :: 42 :: 180 :: 0 :: 13 :: 16 :: 10 :: 27 :: 96 :: 46 :: 167 :: 0 :: 22 :: 28 :: 4 :: 160 :: 0 :: 15 :: 42 :: rb_prog_14_method_20_code_1
theorem rd_prog_14_method_20_code_0 : prog_14_method_20_code.data.toList.drop 0 = rb_prog_14_method_20_code_0 := by decide +kernel
theorem rd_prog_14_method_20_code_1 : prog_14_method_20_code.data.toList.drop 32 = rb_prog_14_method_20_code_1 := dst 32 rd_prog_14_method_20_code_0 rfl
noncomputable def rb_prog_14_method_21_code_1 : List UInt8 := 100 :: 61 :: 28 :: 156 :: 0 :: 7 :: 3 :: 167 :: 0 :: 4 :: 28 :: 172 :: []
noncomputable def rb_prog_14_method_21_code_0 : List UInt8 := 42 :: 180 :: 0 :: 13 :: 16 :: 20 :: 27 :: 96 :: 46 :: 42 :: 180 :: 0 :: 13 :: 16 :: 7 :: 46 :: 16 :: 247 :: 160 :: 0 :: 7 :: 3 :: 167 :: 0 :: 10 :: 42 :: 180 :: 0 :: 13 :: 16 :: 8 :: 46 :: rb_prog_14_method_21_code_1
theorem rd_prog_14_method_21_code_0 : prog_14_method_21_code.data.toList.drop 0 = rb_prog_14_method_21_code_0 := by decide +kernel
theorem rd_prog_14_method_21_code_1 : prog_14_method_21_code.data.toList.drop 32 = rb_prog_14_method_21_code_1 := dst 32 rd_prog_14_method_21_code_0 rfl
noncomputable def rb_prog_14_method_22_code_1 : List UInt8 := 42 :: 180 :: 0 :: 13 :: 16 :: 23 :: 27 :: 96 :: 46 :: 167 :: 0 :: 5 :: 16 :: 254 :: 172 :: []
noncomputable def rb_prog_14_method_22_code_0 : List UInt8 := 27 :: 133 :: 9 :: 20 :: 0 :: 146 :: 184 :: 0 :: 73 :: 154 :: 0 :: 6 :: 16 :: 254 :: 172 :: 28 :: 154 :: 0 :: 11 :: 42 :: 27 :: 182 :: 0 :: 155 :: 167 :: 0 :: 22 :: 28 :: 4 :: 160 :: 0 :: 15 :: rb_prog_14_method_22_code_1
theorem rd_prog_14_method_22_code_0 : prog_14_method_22_code.data.toList.drop 0 = rb_prog_14_method_22_code_0 := by decide +kernel
theorem rd_prog_14_method_22_code_1 : prog_14_method_22_code.data.toList.drop 32 = rb_prog_14_method_22_code_1 := dst 32 rd_prog_14_method_22_code_0 rfl
noncomputable def rb_prog_14_method_23_code_0 : List UInt8 := 27 :: 133 :: 9 :: 20 :: 0 :: 71 :: 184 :: 0 :: 73 :: 153 :: 0 :: 12 :: 42 :: 180 :: 0 :: 13 :: 27 :: 46 :: 167 :: 0 :: 5 :: 16 :: 254 :: 172 :: []
theorem rd_prog_14_method_23_code_0 : prog_14_method_23_code.data.toList.drop 0 = rb_prog_14_method_23_code_0 := by decide +kernel
noncomputable def rb_prog_14_method_24_code_0 : List UInt8 := 27 :: 133 :: 9 :: 42 :: 180 :: 0 :: 13 :: 16 :: 6 :: 46 :: 16 :: 247 :: 160 :: 0 :: 7 :: 9 :: 167 :: 0 :: 6 :: 20 :: 0 :: 146 :: 184 :: 0 :: 73 :: 172 :: []
theorem rd_prog_14_method_24_code_0 : prog_14_method_24_code.data.toList.drop 0 = rb_prog_14_method_24_code_0 := by decide +kernel
noncomputable def rb_prog_14_method_25_code_0 : List UInt8 := 26 :: 16 :: 100 :: 108 :: 26 :: 16 :: 10 :: 108 :: 16 :: 10 :: 112 :: 96 :: 26 :: 16 :: 10 :: 112 :: 96 :: 172 :: []
theorem rd_prog_14_method_25_code_0 : prog_14_method_25_code.data.toList.drop 0 = rb_prog_14_method_25_code_0 := by decide +kernel
noncomputable def rb_prog_14_method_26_code_0 : List UInt8 := 27 :: 133 :: 9 :: 20 :: 0 :: 158 :: 184 :: 0 :: 73 :: 153 :: 0 :: 20 :: 27 :: 184 :: 0 :: 160 :: 42 :: 180 :: 0 :: 13 :: 4 :: 46 :: 163 :: 0 :: 7 :: 4 :: 167 :: 0 :: 4 :: 3 :: 172 :: []
theorem rd_prog_14_method_26_code_0 : prog_14_method_26_code.data.toList.drop 0 = rb_prog_14_method_26_code_0 := by decide +kernel
noncomputable def rb_prog_14_method_27_code_2 : List UInt8 := 4 :: 28 :: 21 :: 6 :: 100 :: 61 :: 16 :: 100 :: 29 :: 104 :: 16 :: 10 :: 21 :: 4 :: 104 :: 96 :: 21 :: 5 :: 96 :: 28 :: 100 :: 172 :: []
noncomputable def rb_prog_14_method_27_code_1 : List UInt8 := 54 :: 6 :: 29 :: 21 :: 6 :: 100 :: 62 :: 28 :: 21 :: 6 :: 100 :: 61 :: 28 :: 21 :: 4 :: 162 :: 0 :: 7 :: 28 :: 167 :: 0 :: 5 :: 21 :: 4 :: 54 :: 6 :: 21 :: 4 :: 21 :: 6 :: 100 :: 54 :: rb_prog_14_method_27_code_2
noncomputable def rb_prog_14_method_27_code_0 : List UInt8 := 27 :: 61 :: 26 :: 16 :: 100 :: 108 :: 62 :: 26 :: 16 :: 10 :: 108 :: 16 :: 10 :: 112 :: 54 :: 4 :: 26 :: 16 :: 10 :: 112 :: 54 :: 5 :: 28 :: 29 :: 162 :: 0 :: 7 :: 28 :: 167 :: 0 :: 4 :: 29 :: rb_prog_14_method_27_code_1
theorem rd_prog_14_method_27_code_0 : prog_14_method_27_code.data.toList.drop 0 = rb_prog_14_method_27_code_0 := by decide +kernel
theorem rd_prog_14_method_27_code_1 : prog_14_method_27_code.data.toList.drop 32 = rb_prog_14_method_27_code_1 := dst 32 rd_prog_14_method_27_code_0 rfl
theorem rd_prog_14_method_27_code_2 : prog_14_method_27_code.data.toList.drop 64 = rb_prog_14_method_27_code_2 := dst 32 rd_prog_14_method_27_code_1 rfl
noncomputable def rb_prog_14_method_28_code_7 : List UInt8 := 100 :: 167 :: 0 :: 5 :: 21 :: 9 :: 172 :: []
noncomputable def rb_prog_14_method_28_code_6 : List UInt8 := 160 :: 0 :: 22 :: 21 :: 9 :: 16 :: 100 :: 108 :: 153 :: 0 :: 11 :: 21 :: 9 :: 16 :: 10 :: 112 :: 154 :: 0 :: 6 :: 16 :: 247 :: 172 :: 21 :: 6 :: 4 :: 160 :: 0 :: 11 :: 21 :: 9 :: 16 :: 90 :: rb_prog_14_method_28_code_7
noncomputable def rb_prog_14_method_28_code_5 : List UInt8 := 172 :: 28 :: 21 :: 4 :: 184 :: 0 :: 163 :: 16 :: 100 :: 21 :: 5 :: 104 :: 96 :: 54 :: 9 :: 21 :: 9 :: 184 :: 0 :: 160 :: 42 :: 180 :: 0 :: 13 :: 4 :: 46 :: 163 :: 0 :: 25 :: 21 :: 6 :: 4 :: rb_prog_14_method_28_code_6
noncomputable def rb_prog_14_method_28_code_4 : List UInt8 := 46 :: 16 :: 247 :: 159 :: 0 :: 19 :: 27 :: 42 :: 180 :: 0 :: 13 :: 3 :: 46 :: 4 :: 100 :: 162 :: 0 :: 7 :: 4 :: 167 :: 0 :: 4 :: 3 :: 54 :: 8 :: 21 :: 8 :: 154 :: 0 :: 6 :: 16 :: 247 :: rb_prog_14_method_28_code_5
noncomputable def rb_prog_14_method_28_code_3 : List UInt8 := 16 :: 247 :: 159 :: 0 :: 52 :: 21 :: 6 :: 153 :: 0 :: 14 :: 42 :: 180 :: 0 :: 13 :: 8 :: 46 :: 16 :: 247 :: 159 :: 0 :: 36 :: 21 :: 7 :: 153 :: 0 :: 27 :: 42 :: 180 :: 0 :: 13 :: 16 :: 6 :: rb_prog_14_method_28_code_4
noncomputable def rb_prog_14_method_28_code_2 : List UInt8 := 162 :: 0 :: 13 :: 21 :: 7 :: 6 :: 162 :: 0 :: 7 :: 4 :: 167 :: 0 :: 4 :: 3 :: 54 :: 8 :: 21 :: 8 :: 153 :: 0 :: 68 :: 21 :: 4 :: 153 :: 0 :: 14 :: 42 :: 180 :: 0 :: 13 :: 7 :: 46 :: rb_prog_14_method_28_code_3
noncomputable def rb_prog_14_method_28_code_1 : List UInt8 := 17 :: 39 :: 16 :: 162 :: 0 :: 42 :: 21 :: 4 :: 28 :: 184 :: 0 :: 160 :: 163 :: 0 :: 33 :: 21 :: 5 :: 42 :: 180 :: 0 :: 13 :: 16 :: 15 :: 27 :: 96 :: 46 :: 163 :: 0 :: 19 :: 21 :: 6 :: 5 :: rb_prog_14_method_28_code_2
noncomputable def rb_prog_14_method_28_code_0 : List UInt8 := 29 :: 17 :: 3 :: 232 :: 108 :: 54 :: 4 :: 29 :: 16 :: 100 :: 108 :: 16 :: 10 :: 112 :: 54 :: 5 :: 29 :: 16 :: 10 :: 108 :: 16 :: 10 :: 112 :: 54 :: 6 :: 29 :: 16 :: 10 :: 112 :: 54 :: 7 :: 29 :: rb_prog_14_method_28_code_1
theorem rd_prog_14_method_28_code_0 : prog_14_method_28_code.data.toList.drop 0 = rb_prog_14_method_28_code_0 := by decide +kernel
theorem rd_prog_14_method_28_code_1 : prog_14_method_28_code.data.toList.drop 32 = rb_prog_14_method_28_code_1 := dst 32 rd_prog_14_method_28_code_0 rfl
theorem rd_prog_14_method_28_code_2 : prog_14_method_28_code.data.toList.drop 64 = rb_prog_14_method_28_code_2 := dst 32 rd_prog_14_method_28_code_1 rfl
theorem rd_prog_14_method_28_code_3 : prog_14_method_28_code.data.toList.drop 96 = rb_prog_14_method_28_code_3 := dst 32 rd_prog_14_method_28_code_2 rfl
theorem rd_prog_14_method_28_code_4 : prog_14_method_28_code.data.toList.drop 128 = rb_prog_14_method_28_code_4 := dst 32 rd_prog_14_method_28_code_3 rfl
theorem rd_prog_14_method_28_code_5 : prog_14_method_28_code.data.toList.drop 160 = rb_prog_14_method_28_code_5 := dst 32 rd_prog_14_method_28_code_4 rfl
theorem rd_prog_14_method_28_code_6 : prog_14_method_28_code.data.toList.drop 192 = rb_prog_14_method_28_code_6 := dst 32 rd_prog_14_method_28_code_5 rfl
theorem rd_prog_14_method_28_code_7 : prog_14_method_28_code.data.toList.drop 224 = rb_prog_14_method_28_code_7 := dst 32 rd_prog_14_method_28_code_6 rfl
noncomputable def rb_prog_14_method_29_code_2 : List UInt8 := 46 :: 100 :: 172 :: []
noncomputable def rb_prog_14_method_29_code_1 : List UInt8 := 108 :: 16 :: 10 :: 112 :: 42 :: 180 :: 0 :: 13 :: 16 :: 24 :: 46 :: 104 :: 96 :: 21 :: 5 :: 42 :: 180 :: 0 :: 13 :: 16 :: 25 :: 46 :: 104 :: 96 :: 42 :: 180 :: 0 :: 13 :: 16 :: 10 :: 27 :: 96 :: rb_prog_14_method_29_code_2
noncomputable def rb_prog_14_method_29_code_0 : List UInt8 := 28 :: 16 :: 10 :: 112 :: 29 :: 96 :: 21 :: 4 :: 16 :: 10 :: 108 :: 16 :: 10 :: 112 :: 100 :: 54 :: 5 :: 28 :: 16 :: 100 :: 108 :: 42 :: 180 :: 0 :: 13 :: 16 :: 23 :: 46 :: 104 :: 28 :: 16 :: 10 :: rb_prog_14_method_29_code_1
theorem rd_prog_14_method_29_code_0 : prog_14_method_29_code.data.toList.drop 0 = rb_prog_14_method_29_code_0 := by decide +kernel
theorem rd_prog_14_method_29_code_1 : prog_14_method_29_code.data.toList.drop 32 = rb_prog_14_method_29_code_1 := dst 32 rd_prog_14_method_29_code_0 rfl
theorem rd_prog_14_method_29_code_2 : prog_14_method_29_code.data.toList.drop 64 = rb_prog_14_method_29_code_2 := dst 32 rd_prog_14_method_29_code_1 rfl
noncomputable def rb_prog_14_method_30_code_3 : List UInt8 := 4 :: 3 :: 96 :: 54 :: 6 :: 21 :: 6 :: 21 :: 4 :: 16 :: 10 :: 108 :: 16 :: 10 :: 112 :: 4 :: 160 :: 0 :: 12 :: 42 :: 180 :: 0 :: 13 :: 8 :: 46 :: 167 :: 0 :: 4 :: 3 :: 96 :: 172 :: []
noncomputable def rb_prog_14_method_30_code_2 : List UInt8 := 6 :: 46 :: 104 :: 96 :: 54 :: 6 :: 21 :: 6 :: 21 :: 4 :: 17 :: 3 :: 232 :: 108 :: 158 :: 0 :: 19 :: 21 :: 4 :: 17 :: 3 :: 232 :: 108 :: 42 :: 180 :: 0 :: 13 :: 7 :: 46 :: 104 :: 167 :: 0 :: rb_prog_14_method_30_code_3
noncomputable def rb_prog_14_method_30_code_1 : List UInt8 := 0 :: 13 :: 6 :: 46 :: 104 :: 167 :: 0 :: 4 :: 3 :: 96 :: 29 :: 42 :: 180 :: 0 :: 13 :: 16 :: 6 :: 46 :: 16 :: 247 :: 160 :: 0 :: 7 :: 3 :: 167 :: 0 :: 10 :: 42 :: 180 :: 0 :: 13 :: 16 :: rb_prog_14_method_30_code_2
noncomputable def rb_prog_14_method_30_code_0 : List UInt8 := 42 :: 27 :: 28 :: 29 :: 21 :: 4 :: 182 :: 0 :: 167 :: 54 :: 5 :: 42 :: 180 :: 0 :: 13 :: 5 :: 46 :: 28 :: 184 :: 0 :: 160 :: 104 :: 21 :: 5 :: 156 :: 0 :: 16 :: 21 :: 5 :: 116 :: 42 :: 180 :: rb_prog_14_method_30_code_1
theorem rd_prog_14_method_30_code_0 : prog_14_method_30_code.data.toList.drop 0 = rb_prog_14_method_30_code_0 := by decide +kernel
theorem rd_prog_14_method_30_code_1 : prog_14_method_30_code.data.toList.drop 32 = rb_prog_14_method_30_code_1 := dst 32 rd_prog_14_method_30_code_0 rfl
theorem rd_prog_14_method_30_code_2 : prog_14_method_30_code.data.toList.drop 64 = rb_prog_14_method_30_code_2 := dst 32 rd_prog_14_method_30_code_1 rfl
theorem rd_prog_14_method_30_code_3 : prog_14_method_30_code.data.toList.drop 96 = rb_prog_14_method_30_code_3 := dst 32 rd_prog_14_method_30_code_2 rfl
noncomputable def rb_prog_14_method_31_code_1 : List UInt8 := 0 :: 174 :: 16 :: 247 :: 160 :: 0 :: 7 :: 3 :: 167 :: 0 :: 4 :: 4 :: 172 :: []
noncomputable def rb_prog_14_method_31_code_0 : List UInt8 := 42 :: 27 :: 182 :: 0 :: 152 :: 154 :: 0 :: 5 :: 2 :: 172 :: 42 :: 28 :: 182 :: 0 :: 171 :: 153 :: 0 :: 7 :: 29 :: 156 :: 0 :: 8 :: 16 :: 254 :: 167 :: 0 :: 20 :: 42 :: 27 :: 28 :: 29 :: 182 :: rb_prog_14_method_31_code_1
theorem rd_prog_14_method_31_code_0 : prog_14_method_31_code.data.toList.drop 0 = rb_prog_14_method_31_code_0 := by decide +kernel
theorem rd_prog_14_method_31_code_1 : prog_14_method_31_code.data.toList.drop 32 = rb_prog_14_method_31_code_1 := dst 32 rd_prog_14_method_31_code_0 rfl
noncomputable def rb_prog_14_method_32_code_1 : List UInt8 := 54 :: 4 :: 21 :: 4 :: 16 :: 247 :: 160 :: 0 :: 8 :: 16 :: 253 :: 167 :: 0 :: 5 :: 21 :: 4 :: 172 :: []
noncomputable def rb_prog_14_method_32_code_0 : List UInt8 := 42 :: 27 :: 182 :: 0 :: 152 :: 154 :: 0 :: 5 :: 2 :: 172 :: 42 :: 28 :: 182 :: 0 :: 171 :: 153 :: 0 :: 7 :: 29 :: 156 :: 0 :: 6 :: 16 :: 254 :: 172 :: 42 :: 27 :: 28 :: 29 :: 182 :: 0 :: 174 :: rb_prog_14_method_32_code_1
theorem rd_prog_14_method_32_code_0 : prog_14_method_32_code.data.toList.drop 0 = rb_prog_14_method_32_code_0 := by decide +kernel
theorem rd_prog_14_method_32_code_1 : prog_14_method_32_code.data.toList.drop 32 = rb_prog_14_method_32_code_1 := dst 32 rd_prog_14_method_32_code_0 rfl
noncomputable def rb_prog_14_method_33_code_2 : List UInt8 := 0 :: 181 :: 172 :: []
noncomputable def rb_prog_14_method_33_code_1 : List UInt8 := 254 :: 172 :: 42 :: 27 :: 28 :: 21 :: 4 :: 182 :: 0 :: 174 :: 54 :: 5 :: 21 :: 5 :: 16 :: 247 :: 160 :: 0 :: 8 :: 16 :: 253 :: 167 :: 0 :: 13 :: 42 :: 27 :: 21 :: 5 :: 29 :: 21 :: 4 :: 182 :: rb_prog_14_method_33_code_2
noncomputable def rb_prog_14_method_33_code_0 : List UInt8 := 42 :: 27 :: 182 :: 0 :: 152 :: 154 :: 0 :: 5 :: 2 :: 172 :: 42 :: 28 :: 182 :: 0 :: 171 :: 153 :: 0 :: 16 :: 42 :: 29 :: 182 :: 0 :: 178 :: 153 :: 0 :: 8 :: 21 :: 4 :: 156 :: 0 :: 6 :: 16 :: rb_prog_14_method_33_code_1
theorem rd_prog_14_method_33_code_0 : prog_14_method_33_code.data.toList.drop 0 = rb_prog_14_method_33_code_0 := by decide +kernel
theorem rd_prog_14_method_33_code_1 : prog_14_method_33_code.data.toList.drop 32 = rb_prog_14_method_33_code_1 := dst 32 rd_prog_14_method_33_code_0 rfl
theorem rd_prog_14_method_33_code_2 : prog_14_method_33_code.data.toList.drop 64 = rb_prog_14_method_33_code_2 := dst 32 rd_prog_14_method_33_code_1 rfl
noncomputable def rb_prog_14_method_34_code_3 : List UInt8 := 3 :: 172 :: []
noncomputable def rb_prog_14_method_34_code_2 : List UInt8 := 54 :: 7 :: 21 :: 5 :: 153 :: 0 :: 17 :: 21 :: 7 :: 158 :: 0 :: 8 :: 21 :: 7 :: 167 :: 0 :: 19 :: 3 :: 167 :: 0 :: 15 :: 21 :: 7 :: 156 :: 0 :: 9 :: 21 :: 7 :: 116 :: 167 :: 0 :: 4 :: rb_prog_14_method_34_code_3
noncomputable def rb_prog_14_method_34_code_1 : List UInt8 := 254 :: 172 :: 42 :: 27 :: 28 :: 21 :: 4 :: 182 :: 0 :: 174 :: 54 :: 6 :: 21 :: 6 :: 16 :: 247 :: 160 :: 0 :: 6 :: 16 :: 253 :: 172 :: 42 :: 27 :: 21 :: 6 :: 29 :: 21 :: 4 :: 182 :: 0 :: 167 :: rb_prog_14_method_34_code_2
noncomputable def rb_prog_14_method_34_code_0 : List UInt8 := 42 :: 27 :: 182 :: 0 :: 152 :: 154 :: 0 :: 5 :: 2 :: 172 :: 42 :: 28 :: 182 :: 0 :: 171 :: 153 :: 0 :: 16 :: 42 :: 29 :: 182 :: 0 :: 178 :: 153 :: 0 :: 8 :: 21 :: 4 :: 156 :: 0 :: 6 :: 16 :: rb_prog_14_method_34_code_1
theorem rd_prog_14_method_34_code_0 : prog_14_method_34_code.data.toList.drop 0 = rb_prog_14_method_34_code_0 := by decide +kernel
theorem rd_prog_14_method_34_code_1 : prog_14_method_34_code.data.toList.drop 32 = rb_prog_14_method_34_code_1 := dst 32 rd_prog_14_method_34_code_0 rfl
theorem rd_prog_14_method_34_code_2 : prog_14_method_34_code.data.toList.drop 64 = rb_prog_14_method_34_code_2 := dst 32 rd_prog_14_method_34_code_1 rfl
theorem rd_prog_14_method_34_code_3 : prog_14_method_34_code.data.toList.drop 96 = rb_prog_14_method_34_code_3 := dst 32 rd_prog_14_method_34_code_2 rfl
noncomputable def rb_prog_14_method_35_code_0 : List UInt8 := 4 :: 61 :: 3 :: 62 :: 29 :: 27 :: 162 :: 0 :: 19 :: 28 :: 26 :: 29 :: 100 :: 104 :: 29 :: 4 :: 96 :: 108 :: 61 :: 132 :: 3 :: 1 :: 167 :: 255 :: 238 :: 28 :: 172 :: []
theorem rd_prog_14_method_35_code_0 : prog_14_method_35_code.data.toList.drop 0 = rb_prog_14_method_35_code_0 := by decide +kernel
noncomputable def rb_prog_14_method_36_code_0 : List UInt8 := 4 :: 61 :: 3 :: 62 :: 29 :: 27 :: 162 :: 0 :: 13 :: 28 :: 26 :: 104 :: 61 :: 132 :: 3 :: 1 :: 167 :: 255 :: 244 :: 28 :: 172 :: []
theorem rd_prog_14_method_36_code_0 : prog_14_method_36_code.data.toList.drop 0 = rb_prog_14_method_36_code_0 := by decide +kernel
noncomputable def rb_prog_14_method_37_code_1 : List UInt8 := 155 :: 28 :: 29 :: 100 :: 184 :: 0 :: 187 :: 104 :: 167 :: 0 :: 4 :: 3 :: 172 :: []
noncomputable def rb_prog_14_method_37_code_0 : List UInt8 := 29 :: 133 :: 9 :: 28 :: 133 :: 184 :: 0 :: 73 :: 153 :: 0 :: 35 :: 28 :: 29 :: 184 :: 0 :: 184 :: 8 :: 42 :: 27 :: 182 :: 0 :: 155 :: 100 :: 29 :: 184 :: 0 :: 187 :: 104 :: 42 :: 27 :: 182 :: 0 :: rb_prog_14_method_37_code_1
theorem rd_prog_14_method_37_code_0 : prog_14_method_37_code.data.toList.drop 0 = rb_prog_14_method_37_code_0 := by decide +kernel
theorem rd_prog_14_method_37_code_1 : prog_14_method_37_code.data.toList.drop 32 = rb_prog_14_method_37_code_1 := dst 32 rd_prog_14_method_37_code_0 rfl
noncomputable def rb_prog_14_method_38_code_3 : List UInt8 := 0 :: 187 :: 104 :: 172 :: []
noncomputable def rb_prog_14_method_38_code_2 : List UInt8 := 42 :: 5 :: 21 :: 6 :: 28 :: 16 :: 10 :: 112 :: 21 :: 7 :: 100 :: 182 :: 0 :: 190 :: 104 :: 96 :: 62 :: 132 :: 7 :: 1 :: 167 :: 255 :: 198 :: 29 :: 8 :: 7 :: 27 :: 184 :: 0 :: 160 :: 100 :: 184 :: rb_prog_14_method_38_code_3
noncomputable def rb_prog_14_method_38_code_1 : List UInt8 := 57 :: 28 :: 16 :: 100 :: 162 :: 0 :: 51 :: 29 :: 42 :: 3 :: 21 :: 4 :: 28 :: 16 :: 10 :: 108 :: 16 :: 10 :: 112 :: 182 :: 0 :: 190 :: 42 :: 4 :: 21 :: 5 :: 21 :: 7 :: 182 :: 0 :: 190 :: 104 :: rb_prog_14_method_38_code_2
noncomputable def rb_prog_14_method_38_code_0 : List UInt8 := 3 :: 62 :: 27 :: 16 :: 100 :: 108 :: 54 :: 4 :: 27 :: 16 :: 10 :: 108 :: 16 :: 10 :: 112 :: 54 :: 5 :: 27 :: 16 :: 10 :: 112 :: 54 :: 6 :: 3 :: 54 :: 7 :: 21 :: 7 :: 21 :: 5 :: 163 :: 0 :: rb_prog_14_method_38_code_1
theorem rd_prog_14_method_38_code_0 : prog_14_method_38_code.data.toList.drop 0 = rb_prog_14_method_38_code_0 := by decide +kernel
theorem rd_prog_14_method_38_code_1 : prog_14_method_38_code.data.toList.drop 32 = rb_prog_14_method_38_code_1 := dst 32 rd_prog_14_method_38_code_0 rfl
theorem rd_prog_14_method_38_code_2 : prog_14_method_38_code.data.toList.drop 64 = rb_prog_14_method_38_code_2 := dst 32 rd_prog_14_method_38_code_1 rfl
theorem rd_prog_14_method_38_code_3 : prog_14_method_38_code.data.toList.drop 96 = rb_prog_14_method_38_code_3 := dst 32 rd_prog_14_method_38_code_2 rfl
noncomputable def rb_prog_14_method_39_code_1 : List UInt8 := 4 :: 173 :: []
noncomputable def rb_prog_14_method_39_code_0 : List UInt8 := 30 :: 55 :: 4 :: 32 :: 55 :: 6 :: 22 :: 6 :: 9 :: 148 :: 153 :: 0 :: 21 :: 22 :: 4 :: 22 :: 6 :: 113 :: 55 :: 8 :: 22 :: 6 :: 55 :: 4 :: 22 :: 8 :: 55 :: 6 :: 167 :: 255 :: 234 :: 22 :: rb_prog_14_method_39_code_1
theorem rd_prog_14_method_39_code_0 : prog_14_method_39_code.data.toList.drop 0 = rb_prog_14_method_39_code_0 := by decide +kernel
theorem rd_prog_14_method_39_code_1 : prog_14_method_39_code.data.toList.drop 32 = rb_prog_14_method_39_code_1 := dst 32 rd_prog_14_method_39_code_0 rfl
noncomputable def rb_prog_14_method_40_code_0 : List UInt8 := 30 :: 32 :: 184 :: 0 :: 193 :: 55 :: 5 :: 21 :: 4 :: 153 :: 0 :: 10 :: 30 :: 22 :: 5 :: 109 :: 167 :: 0 :: 7 :: 32 :: 22 :: 5 :: 109 :: 173 :: []
theorem rd_prog_14_method_40_code_0 : prog_14_method_40_code.data.toList.drop 0 = rb_prog_14_method_40_code_0 := by decide +kernel
noncomputable def rb_prog_14_method_41_code_1 : List UInt8 := 6 :: 20 :: 0 :: 206 :: 173 :: []
noncomputable def rb_prog_14_method_41_code_0 : List UInt8 := 42 :: 27 :: 182 :: 0 :: 171 :: 153 :: 0 :: 28 :: 42 :: 28 :: 182 :: 0 :: 171 :: 153 :: 0 :: 20 :: 42 :: 27 :: 28 :: 182 :: 0 :: 197 :: 133 :: 20 :: 0 :: 200 :: 29 :: 184 :: 0 :: 202 :: 167 :: 0 :: rb_prog_14_method_41_code_1
theorem rd_prog_14_method_41_code_0 : prog_14_method_41_code.data.toList.drop 0 = rb_prog_14_method_41_code_0 := by decide +kernel
theorem rd_prog_14_method_41_code_1 : prog_14_method_41_code.data.toList.drop 32 = rb_prog_14_method_41_code_1 := dst 32 rd_prog_14_method_41_code_0 rfl
noncomputable def rb_prog_14_method_42_code_2 : List UInt8 := 162 :: 0 :: 8 :: 21 :: 6 :: 167 :: 0 :: 5 :: 21 :: 5 :: 54 :: 6 :: 21 :: 6 :: 158 :: 0 :: 11 :: 16 :: 100 :: 21 :: 6 :: 104 :: 167 :: 0 :: 4 :: 3 :: 172 :: []
noncomputable def rb_prog_14_method_42_code_1 : List UInt8 := 42 :: 180 :: 0 :: 13 :: 16 :: 15 :: 28 :: 96 :: 46 :: 162 :: 0 :: 8 :: 21 :: 4 :: 167 :: 0 :: 12 :: 42 :: 180 :: 0 :: 13 :: 16 :: 15 :: 28 :: 96 :: 46 :: 54 :: 6 :: 21 :: 6 :: 21 :: 5 :: rb_prog_14_method_42_code_2
noncomputable def rb_prog_14_method_42_code_0 : List UInt8 := 42 :: 180 :: 0 :: 19 :: 8 :: 27 :: 104 :: 28 :: 96 :: 46 :: 29 :: 184 :: 0 :: 160 :: 100 :: 54 :: 4 :: 42 :: 180 :: 0 :: 13 :: 4 :: 46 :: 29 :: 184 :: 0 :: 160 :: 100 :: 54 :: 5 :: 21 :: 4 :: rb_prog_14_method_42_code_1
theorem rd_prog_14_method_42_code_0 : prog_14_method_42_code.data.toList.drop 0 = rb_prog_14_method_42_code_0 := by decide +kernel
theorem rd_prog_14_method_42_code_1 : prog_14_method_42_code.data.toList.drop 32 = rb_prog_14_method_42_code_1 := dst 32 rd_prog_14_method_42_code_0 rfl
theorem rd_prog_14_method_42_code_2 : prog_14_method_42_code.data.toList.drop 64 = rb_prog_14_method_42_code_2 := dst 32 rd_prog_14_method_42_code_1 rfl
noncomputable def rb_prog_14_method_43_code_1 : List UInt8 := 16 :: 100 :: 108 :: 167 :: 0 :: 5 :: 16 :: 254 :: 172 :: []
noncomputable def rb_prog_14_method_43_code_0 : List UInt8 := 27 :: 184 :: 0 :: 148 :: 153 :: 0 :: 11 :: 42 :: 28 :: 182 :: 0 :: 152 :: 154 :: 0 :: 5 :: 2 :: 172 :: 42 :: 29 :: 182 :: 0 :: 171 :: 153 :: 0 :: 16 :: 42 :: 27 :: 28 :: 29 :: 182 :: 0 :: 208 :: rb_prog_14_method_43_code_1
theorem rd_prog_14_method_43_code_0 : prog_14_method_43_code.data.toList.drop 0 = rb_prog_14_method_43_code_0 := by decide +kernel
theorem rd_prog_14_method_43_code_1 : prog_14_method_43_code.data.toList.drop 32 = rb_prog_14_method_43_code_1 := dst 32 rd_prog_14_method_43_code_0 rfl
noncomputable def rb_prog_14_method_44_code_0 : List UInt8 := 10 :: 64 :: 3 :: 62 :: 29 :: 26 :: 162 :: 0 :: 15 :: 31 :: 20 :: 0 :: 200 :: 105 :: 64 :: 132 :: 3 :: 1 :: 167 :: 255 :: 242 :: 31 :: 173 :: []
theorem rd_prog_14_method_44_code_0 : prog_14_method_44_code.data.toList.drop 0 = rb_prog_14_method_44_code_0 := by decide +kernel
noncomputable def rb_prog_14_method_45_code_0 : List UInt8 := 42 :: 180 :: 0 :: 13 :: 16 :: 7 :: 46 :: 16 :: 247 :: 160 :: 0 :: 7 :: 3 :: 167 :: 0 :: 15 :: 42 :: 180 :: 0 :: 13 :: 16 :: 7 :: 46 :: 27 :: 184 :: 0 :: 160 :: 104 :: 172 :: []
theorem rd_prog_14_method_45_code_0 : prog_14_method_45_code.data.toList.drop 0 = rb_prog_14_method_45_code_0 := by decide +kernel
noncomputable def rb_prog_14_method_46_code_1 : List UInt8 := 0 :: 25 :: 21 :: 4 :: 47 :: 105 :: 167 :: 0 :: 4 :: 9 :: 97 :: 65 :: 132 :: 4 :: 1 :: 167 :: 255 :: 214 :: 32 :: 173 :: []
noncomputable def rb_prog_14_method_46_code_0 : List UInt8 := 9 :: 65 :: 3 :: 54 :: 4 :: 21 :: 4 :: 16 :: 50 :: 162 :: 0 :: 41 :: 32 :: 42 :: 21 :: 4 :: 182 :: 0 :: 171 :: 153 :: 0 :: 22 :: 42 :: 27 :: 21 :: 4 :: 182 :: 0 :: 197 :: 133 :: 42 :: 180 :: rb_prog_14_method_46_code_1
theorem rd_prog_14_method_46_code_0 : prog_14_method_46_code.data.toList.drop 0 = rb_prog_14_method_46_code_0 := by decide +kernel
theorem rd_prog_14_method_46_code_1 : prog_14_method_46_code.data.toList.drop 32 = rb_prog_14_method_46_code_1 := dst 32 rd_prog_14_method_46_code_0 rfl
noncomputable def rb_prog_14_method_47_code_6 : List UInt8 := 255 :: 167 :: 255 :: 117 :: 42 :: 180 :: 0 :: 25 :: 29 :: 47 :: 173 :: []
noncomputable def rb_prog_14_method_47_code_5 : List UInt8 := 54 :: 6 :: 21 :: 6 :: 17 :: 1 :: 244 :: 162 :: 0 :: 23 :: 42 :: 180 :: 0 :: 25 :: 21 :: 6 :: 42 :: 180 :: 0 :: 29 :: 21 :: 6 :: 47 :: 80 :: 132 :: 6 :: 1 :: 167 :: 255 :: 231 :: 132 :: 5 :: rb_prog_14_method_47_code_6
noncomputable def rb_prog_14_method_47_code_4 : List UInt8 := 182 :: 0 :: 181 :: 133 :: 42 :: 180 :: 0 :: 13 :: 3 :: 46 :: 21 :: 5 :: 100 :: 184 :: 0 :: 214 :: 105 :: 42 :: 21 :: 8 :: 182 :: 0 :: 218 :: 97 :: 80 :: 132 :: 6 :: 1 :: 167 :: 255 :: 163 :: 3 :: rb_prog_14_method_47_code_5
noncomputable def rb_prog_14_method_47_code_3 : List UInt8 := 21 :: 7 :: 182 :: 0 :: 174 :: 54 :: 8 :: 42 :: 180 :: 0 :: 29 :: 21 :: 6 :: 42 :: 21 :: 5 :: 21 :: 8 :: 21 :: 5 :: 28 :: 160 :: 0 :: 8 :: 21 :: 4 :: 167 :: 0 :: 4 :: 3 :: 21 :: 7 :: rb_prog_14_method_47_code_4
noncomputable def rb_prog_14_method_47_code_2 : List UInt8 := 6 :: 17 :: 1 :: 244 :: 162 :: 0 :: 91 :: 42 :: 21 :: 6 :: 182 :: 0 :: 171 :: 153 :: 0 :: 76 :: 42 :: 27 :: 21 :: 5 :: 21 :: 6 :: 182 :: 0 :: 208 :: 54 :: 7 :: 42 :: 21 :: 5 :: 21 :: 6 :: rb_prog_14_method_47_code_3
noncomputable def rb_prog_14_method_47_code_1 : List UInt8 := 133 :: 167 :: 0 :: 4 :: 9 :: 80 :: 132 :: 5 :: 1 :: 167 :: 255 :: 218 :: 42 :: 180 :: 0 :: 13 :: 3 :: 46 :: 4 :: 100 :: 54 :: 5 :: 21 :: 5 :: 28 :: 161 :: 0 :: 139 :: 3 :: 54 :: 6 :: 21 :: rb_prog_14_method_47_code_2
noncomputable def rb_prog_14_method_47_code_0 : List UInt8 := 3 :: 54 :: 5 :: 21 :: 5 :: 17 :: 3 :: 232 :: 162 :: 0 :: 36 :: 42 :: 180 :: 0 :: 25 :: 21 :: 5 :: 42 :: 21 :: 5 :: 182 :: 0 :: 171 :: 153 :: 0 :: 13 :: 42 :: 21 :: 5 :: 182 :: 0 :: 211 :: rb_prog_14_method_47_code_1
theorem rd_prog_14_method_47_code_0 : prog_14_method_47_code.data.toList.drop 0 = rb_prog_14_method_47_code_0 := by decide +kernel
theorem rd_prog_14_method_47_code_1 : prog_14_method_47_code.data.toList.drop 32 = rb_prog_14_method_47_code_1 := dst 32 rd_prog_14_method_47_code_0 rfl
theorem rd_prog_14_method_47_code_2 : prog_14_method_47_code.data.toList.drop 64 = rb_prog_14_method_47_code_2 := dst 32 rd_prog_14_method_47_code_1 rfl
theorem rd_prog_14_method_47_code_3 : prog_14_method_47_code.data.toList.drop 96 = rb_prog_14_method_47_code_3 := dst 32 rd_prog_14_method_47_code_2 rfl
theorem rd_prog_14_method_47_code_4 : prog_14_method_47_code.data.toList.drop 128 = rb_prog_14_method_47_code_4 := dst 32 rd_prog_14_method_47_code_3 rfl
theorem rd_prog_14_method_47_code_5 : prog_14_method_47_code.data.toList.drop 160 = rb_prog_14_method_47_code_5 := dst 32 rd_prog_14_method_47_code_4 rfl
theorem rd_prog_14_method_47_code_6 : prog_14_method_47_code.data.toList.drop 192 = rb_prog_14_method_47_code_6 := dst 32 rd_prog_14_method_47_code_5 rfl
noncomputable def rb_prog_14_method_48_code_2 : List UInt8 := 202 :: 173 :: []
noncomputable def rb_prog_14_method_48_code_1 : List UInt8 := 178 :: 154 :: 0 :: 7 :: 20 :: 0 :: 206 :: 173 :: 42 :: 27 :: 28 :: 29 :: 21 :: 4 :: 182 :: 0 :: 223 :: 42 :: 180 :: 0 :: 13 :: 3 :: 46 :: 28 :: 100 :: 184 :: 0 :: 214 :: 21 :: 5 :: 184 :: 0 :: rb_prog_14_method_48_code_2
noncomputable def rb_prog_14_method_48_code_0 : List UInt8 := 27 :: 184 :: 0 :: 148 :: 153 :: 0 :: 11 :: 42 :: 28 :: 182 :: 0 :: 152 :: 154 :: 0 :: 7 :: 20 :: 0 :: 221 :: 173 :: 42 :: 29 :: 182 :: 0 :: 171 :: 153 :: 0 :: 12 :: 42 :: 21 :: 4 :: 182 :: 0 :: rb_prog_14_method_48_code_1
theorem rd_prog_14_method_48_code_0 : prog_14_method_48_code.data.toList.drop 0 = rb_prog_14_method_48_code_0 := by decide +kernel
theorem rd_prog_14_method_48_code_1 : prog_14_method_48_code.data.toList.drop 32 = rb_prog_14_method_48_code_1 := dst 32 rd_prog_14_method_48_code_0 rfl
theorem rd_prog_14_method_48_code_2 : prog_14_method_48_code.data.toList.drop 64 = rb_prog_14_method_48_code_2 := dst 32 rd_prog_14_method_48_code_1 rfl
noncomputable def rb_prog_14_method_49_code_6 : List UInt8 := 3 :: 1 :: 167 :: 255 :: 93 :: 177 :: []
noncomputable def rb_prog_14_method_49_code_5 : List UInt8 := 161 :: 3 :: 54 :: 4 :: 21 :: 4 :: 16 :: 50 :: 162 :: 0 :: 23 :: 42 :: 180 :: 0 :: 32 :: 21 :: 4 :: 42 :: 180 :: 0 :: 35 :: 21 :: 4 :: 47 :: 80 :: 132 :: 4 :: 1 :: 167 :: 255 :: 232 :: 132 :: rb_prog_14_method_49_code_6
noncomputable def rb_prog_14_method_49_code_4 : List UInt8 := 0 :: 32 :: 21 :: 4 :: 47 :: 42 :: 21 :: 5 :: 21 :: 6 :: 182 :: 0 :: 197 :: 133 :: 105 :: 167 :: 0 :: 4 :: 9 :: 97 :: 80 :: 132 :: 6 :: 1 :: 167 :: 255 :: 206 :: 132 :: 4 :: 1 :: 167 :: 255 :: rb_prog_14_method_49_code_5
noncomputable def rb_prog_14_method_49_code_3 : List UInt8 := 174 :: 54 :: 5 :: 3 :: 54 :: 6 :: 21 :: 6 :: 16 :: 50 :: 162 :: 0 :: 49 :: 42 :: 180 :: 0 :: 35 :: 21 :: 6 :: 92 :: 47 :: 42 :: 21 :: 6 :: 182 :: 0 :: 171 :: 153 :: 0 :: 23 :: 42 :: 180 :: rb_prog_14_method_49_code_4
noncomputable def rb_prog_14_method_49_code_2 : List UInt8 := 4 :: 16 :: 50 :: 162 :: 0 :: 94 :: 42 :: 180 :: 0 :: 32 :: 21 :: 4 :: 47 :: 9 :: 148 :: 158 :: 0 :: 76 :: 42 :: 29 :: 21 :: 4 :: 42 :: 27 :: 29 :: 21 :: 4 :: 182 :: 0 :: 208 :: 182 :: 0 :: rb_prog_14_method_49_code_3
noncomputable def rb_prog_14_method_49_code_1 : List UInt8 := 28 :: 162 :: 0 :: 164 :: 3 :: 54 :: 4 :: 21 :: 4 :: 16 :: 50 :: 162 :: 0 :: 17 :: 42 :: 180 :: 0 :: 35 :: 21 :: 4 :: 9 :: 80 :: 132 :: 4 :: 1 :: 167 :: 255 :: 238 :: 3 :: 54 :: 4 :: 21 :: rb_prog_14_method_49_code_2
noncomputable def rb_prog_14_method_49_code_0 : List UInt8 := 3 :: 62 :: 29 :: 16 :: 50 :: 162 :: 0 :: 24 :: 42 :: 180 :: 0 :: 32 :: 29 :: 29 :: 154 :: 0 :: 7 :: 10 :: 167 :: 0 :: 4 :: 9 :: 80 :: 132 :: 3 :: 1 :: 167 :: 255 :: 232 :: 3 :: 62 :: 29 :: rb_prog_14_method_49_code_1
theorem rd_prog_14_method_49_code_0 : prog_14_method_49_code.data.toList.drop 0 = rb_prog_14_method_49_code_0 := by decide +kernel
theorem rd_prog_14_method_49_code_1 : prog_14_method_49_code.data.toList.drop 32 = rb_prog_14_method_49_code_1 := dst 32 rd_prog_14_method_49_code_0 rfl
theorem rd_prog_14_method_49_code_2 : prog_14_method_49_code.data.toList.drop 64 = rb_prog_14_method_49_code_2 := dst 32 rd_prog_14_method_49_code_1 rfl
theorem rd_prog_14_method_49_code_3 : prog_14_method_49_code.data.toList.drop 96 = rb_prog_14_method_49_code_3 := dst 32 rd_prog_14_method_49_code_2 rfl
theorem rd_prog_14_method_49_code_4 : prog_14_method_49_code.data.toList.drop 128 = rb_prog_14_method_49_code_4 := dst 32 rd_prog_14_method_49_code_3 rfl
theorem rd_prog_14_method_49_code_5 : prog_14_method_49_code.data.toList.drop 160 = rb_prog_14_method_49_code_5 := dst 32 rd_prog_14_method_49_code_4 rfl
theorem rd_prog_14_method_49_code_6 : prog_14_method_49_code.data.toList.drop 192 = rb_prog_14_method_49_code_6 := dst 32 rd_prog_14_method_49_code_5 rfl
noncomputable def rb_prog_14_method_50_code_0 : List UInt8 := 42 :: 27 :: 28 :: 29 :: 182 :: 0 :: 208 :: 54 :: 4 :: 42 :: 28 :: 42 :: 28 :: 29 :: 21 :: 4 :: 182 :: 0 :: 174 :: 3 :: 21 :: 4 :: 182 :: 0 :: 167 :: 172 :: []
theorem rd_prog_14_method_50_code_0 : prog_14_method_50_code.data.toList.drop 0 = rb_prog_14_method_50_code_0 := by decide +kernel
noncomputable def rb_prog_14_method_51_code_2 : List UInt8 := 180 :: 0 :: 32 :: 21 :: 6 :: 47 :: 167 :: 0 :: 4 :: 9 :: 97 :: 55 :: 4 :: 132 :: 6 :: 1 :: 167 :: 255 :: 207 :: 22 :: 4 :: 28 :: 184 :: 0 :: 214 :: 29 :: 184 :: 0 :: 202 :: 173 :: []
noncomputable def rb_prog_14_method_51_code_1 : List UInt8 := 6 :: 16 :: 50 :: 162 :: 0 :: 48 :: 22 :: 4 :: 42 :: 180 :: 0 :: 32 :: 21 :: 6 :: 47 :: 9 :: 148 :: 158 :: 0 :: 24 :: 42 :: 27 :: 28 :: 21 :: 6 :: 182 :: 0 :: 231 :: 156 :: 0 :: 13 :: 42 :: rb_prog_14_method_51_code_2
noncomputable def rb_prog_14_method_51_code_0 : List UInt8 := 27 :: 184 :: 0 :: 148 :: 153 :: 0 :: 11 :: 42 :: 28 :: 182 :: 0 :: 152 :: 154 :: 0 :: 7 :: 20 :: 0 :: 221 :: 173 :: 42 :: 27 :: 28 :: 182 :: 0 :: 227 :: 9 :: 55 :: 4 :: 3 :: 54 :: 6 :: 21 :: rb_prog_14_method_51_code_1
theorem rd_prog_14_method_51_code_0 : prog_14_method_51_code.data.toList.drop 0 = rb_prog_14_method_51_code_0 := by decide +kernel
theorem rd_prog_14_method_51_code_1 : prog_14_method_51_code.data.toList.drop 32 = rb_prog_14_method_51_code_1 := dst 32 rd_prog_14_method_51_code_0 rfl
theorem rd_prog_14_method_51_code_2 : prog_14_method_51_code.data.toList.drop 64 = rb_prog_14_method_51_code_2 := dst 32 rd_prog_14_method_51_code_1 rfl
noncomputable def rb_prog_14_method_52_code_3 : List UInt8 := 4 :: 28 :: 184 :: 0 :: 214 :: 29 :: 184 :: 0 :: 202 :: 173 :: []
noncomputable def rb_prog_14_method_52_code_2 : List UInt8 := 22 :: 4 :: 21 :: 7 :: 158 :: 0 :: 17 :: 21 :: 7 :: 133 :: 42 :: 180 :: 0 :: 32 :: 21 :: 6 :: 47 :: 105 :: 167 :: 0 :: 4 :: 9 :: 97 :: 55 :: 4 :: 132 :: 6 :: 1 :: 167 :: 255 :: 195 :: 22 :: rb_prog_14_method_52_code_3
noncomputable def rb_prog_14_method_52_code_1 : List UInt8 := 6 :: 16 :: 50 :: 162 :: 0 :: 60 :: 42 :: 180 :: 0 :: 32 :: 21 :: 6 :: 47 :: 9 :: 148 :: 158 :: 0 :: 14 :: 42 :: 27 :: 28 :: 21 :: 6 :: 182 :: 0 :: 231 :: 167 :: 0 :: 4 :: 3 :: 54 :: 7 :: rb_prog_14_method_52_code_2
noncomputable def rb_prog_14_method_52_code_0 : List UInt8 := 27 :: 184 :: 0 :: 148 :: 153 :: 0 :: 11 :: 42 :: 28 :: 182 :: 0 :: 152 :: 154 :: 0 :: 7 :: 20 :: 0 :: 221 :: 173 :: 42 :: 27 :: 28 :: 182 :: 0 :: 227 :: 9 :: 55 :: 4 :: 3 :: 54 :: 6 :: 21 :: rb_prog_14_method_52_code_1
theorem rd_prog_14_method_52_code_0 : prog_14_method_52_code.data.toList.drop 0 = rb_prog_14_method_52_code_0 := by decide +kernel
theorem rd_prog_14_method_52_code_1 : prog_14_method_52_code.data.toList.drop 32 = rb_prog_14_method_52_code_1 := dst 32 rd_prog_14_method_52_code_0 rfl
theorem rd_prog_14_method_52_code_2 : prog_14_method_52_code.data.toList.drop 64 = rb_prog_14_method_52_code_2 := dst 32 rd_prog_14_method_52_code_1 rfl
theorem rd_prog_14_method_52_code_3 : prog_14_method_52_code.data.toList.drop 96 = rb_prog_14_method_52_code_3 := dst 32 rd_prog_14_method_52_code_2 rfl
noncomputable def rb_prog_14_method_53_code_3 : List UInt8 := 5 :: 28 :: 184 :: 0 :: 214 :: 21 :: 4 :: 184 :: 0 :: 202 :: 173 :: []
noncomputable def rb_prog_14_method_53_code_2 : List UInt8 := 22 :: 5 :: 21 :: 7 :: 184 :: 0 :: 160 :: 29 :: 160 :: 0 :: 13 :: 42 :: 180 :: 0 :: 32 :: 21 :: 7 :: 47 :: 167 :: 0 :: 4 :: 9 :: 97 :: 55 :: 5 :: 132 :: 7 :: 1 :: 167 :: 255 :: 221 :: 22 :: rb_prog_14_method_53_code_3
noncomputable def rb_prog_14_method_53_code_1 : List UInt8 := 20 :: 0 :: 69 :: 184 :: 0 :: 73 :: 154 :: 0 :: 7 :: 20 :: 0 :: 206 :: 173 :: 42 :: 27 :: 28 :: 182 :: 0 :: 227 :: 9 :: 55 :: 5 :: 3 :: 54 :: 7 :: 21 :: 7 :: 16 :: 50 :: 162 :: 0 :: 34 :: rb_prog_14_method_53_code_2
noncomputable def rb_prog_14_method_53_code_0 : List UInt8 := 27 :: 184 :: 0 :: 148 :: 153 :: 0 :: 21 :: 42 :: 28 :: 182 :: 0 :: 152 :: 154 :: 0 :: 17 :: 28 :: 42 :: 180 :: 0 :: 13 :: 3 :: 46 :: 159 :: 0 :: 7 :: 20 :: 0 :: 221 :: 173 :: 29 :: 133 :: 9 :: rb_prog_14_method_53_code_1
theorem rd_prog_14_method_53_code_0 : prog_14_method_53_code.data.toList.drop 0 = rb_prog_14_method_53_code_0 := by decide +kernel
theorem rd_prog_14_method_53_code_1 : prog_14_method_53_code.data.toList.drop 32 = rb_prog_14_method_53_code_1 := dst 32 rd_prog_14_method_53_code_0 rfl
theorem rd_prog_14_method_53_code_2 : prog_14_method_53_code.data.toList.drop 64 = rb_prog_14_method_53_code_2 := dst 32 rd_prog_14_method_53_code_1 rfl
theorem rd_prog_14_method_53_code_3 : prog_14_method_53_code.data.toList.drop 96 = rb_prog_14_method_53_code_3 := dst 32 rd_prog_14_method_53_code_2 rfl
noncomputable def rb_prog_14_method_54_code_2 : List UInt8 := 208 :: 27 :: 172 :: []
noncomputable def rb_prog_14_method_54_code_1 : List UInt8 := 5 :: 32 :: 148 :: 156 :: 0 :: 8 :: 21 :: 4 :: 167 :: 0 :: 4 :: 27 :: 60 :: 22 :: 5 :: 32 :: 148 :: 156 :: 0 :: 8 :: 22 :: 5 :: 167 :: 0 :: 4 :: 32 :: 65 :: 132 :: 4 :: 1 :: 167 :: 255 :: rb_prog_14_method_54_code_2
noncomputable def rb_prog_14_method_54_code_0 : List UInt8 := 3 :: 60 :: 42 :: 3 :: 3 :: 3 :: 3 :: 182 :: 0 :: 223 :: 65 :: 4 :: 54 :: 4 :: 21 :: 4 :: 6 :: 162 :: 0 :: 48 :: 42 :: 21 :: 4 :: 3 :: 3 :: 3 :: 182 :: 0 :: 223 :: 55 :: 5 :: 22 :: rb_prog_14_method_54_code_1
theorem rd_prog_14_method_54_code_0 : prog_14_method_54_code.data.toList.drop 0 = rb_prog_14_method_54_code_0 := by decide +kernel
theorem rd_prog_14_method_54_code_1 : prog_14_method_54_code.data.toList.drop 32 = rb_prog_14_method_54_code_1 := dst 32 rd_prog_14_method_54_code_0 rfl
theorem rd_prog_14_method_54_code_2 : prog_14_method_54_code.data.toList.drop 64 = rb_prog_14_method_54_code_2 := dst 32 rd_prog_14_method_54_code_1 rfl
noncomputable def rb_prog_14_method_55_code_1 : List UInt8 := 0 :: 38 :: 6 :: 21 :: 5 :: 104 :: 28 :: 96 :: 47 :: 105 :: 167 :: 0 :: 4 :: 9 :: 97 :: 66 :: 132 :: 5 :: 1 :: 167 :: 255 :: 210 :: 33 :: 173 :: []
noncomputable def rb_prog_14_method_55_code_0 : List UInt8 := 9 :: 66 :: 3 :: 54 :: 5 :: 21 :: 5 :: 16 :: 50 :: 162 :: 0 :: 45 :: 33 :: 42 :: 21 :: 5 :: 182 :: 0 :: 171 :: 153 :: 0 :: 26 :: 42 :: 27 :: 21 :: 5 :: 182 :: 0 :: 197 :: 133 :: 42 :: 180 :: rb_prog_14_method_55_code_1
theorem rd_prog_14_method_55_code_0 : prog_14_method_55_code.data.toList.drop 0 = rb_prog_14_method_55_code_0 := by decide +kernel
theorem rd_prog_14_method_55_code_1 : prog_14_method_55_code.data.toList.drop 32 = rb_prog_14_method_55_code_1 := dst 32 rd_prog_14_method_55_code_0 rfl
noncomputable def rb_prog_14_method_56_code_4 : List UInt8 := 132 :: 5 :: 1 :: 167 :: 255 :: 231 :: 132 :: 2 :: 255 :: 167 :: 255 :: 171 :: 177 :: []
noncomputable def rb_prog_14_method_56_code_3 : List UInt8 := 234 :: 132 :: 5 :: 1 :: 167 :: 255 :: 228 :: 3 :: 54 :: 5 :: 21 :: 5 :: 17 :: 5 :: 220 :: 162 :: 0 :: 23 :: 42 :: 180 :: 0 :: 38 :: 21 :: 5 :: 42 :: 180 :: 0 :: 41 :: 21 :: 5 :: 47 :: 80 :: rb_prog_14_method_56_code_4
noncomputable def rb_prog_14_method_56_code_2 : List UInt8 := 100 :: 184 :: 0 :: 214 :: 66 :: 3 :: 54 :: 5 :: 21 :: 5 :: 17 :: 1 :: 244 :: 162 :: 0 :: 26 :: 42 :: 21 :: 5 :: 182 :: 0 :: 171 :: 153 :: 0 :: 11 :: 42 :: 28 :: 21 :: 5 :: 33 :: 182 :: 0 :: rb_prog_14_method_56_code_3
noncomputable def rb_prog_14_method_56_code_1 : List UInt8 := 167 :: 0 :: 4 :: 9 :: 80 :: 132 :: 2 :: 1 :: 167 :: 255 :: 218 :: 42 :: 180 :: 0 :: 13 :: 3 :: 46 :: 4 :: 100 :: 61 :: 28 :: 27 :: 161 :: 0 :: 86 :: 42 :: 180 :: 0 :: 13 :: 3 :: 46 :: 28 :: rb_prog_14_method_56_code_2
noncomputable def rb_prog_14_method_56_code_0 : List UInt8 := 3 :: 61 :: 28 :: 17 :: 5 :: 220 :: 162 :: 0 :: 37 :: 42 :: 180 :: 0 :: 38 :: 28 :: 42 :: 28 :: 6 :: 108 :: 182 :: 0 :: 171 :: 153 :: 0 :: 14 :: 42 :: 28 :: 6 :: 108 :: 182 :: 0 :: 211 :: 133 :: rb_prog_14_method_56_code_1
theorem rd_prog_14_method_56_code_0 : prog_14_method_56_code.data.toList.drop 0 = rb_prog_14_method_56_code_0 := by decide +kernel
theorem rd_prog_14_method_56_code_1 : prog_14_method_56_code.data.toList.drop 32 = rb_prog_14_method_56_code_1 := dst 32 rd_prog_14_method_56_code_0 rfl
theorem rd_prog_14_method_56_code_2 : prog_14_method_56_code.data.toList.drop 64 = rb_prog_14_method_56_code_2 := dst 32 rd_prog_14_method_56_code_1 rfl
theorem rd_prog_14_method_56_code_3 : prog_14_method_56_code.data.toList.drop 96 = rb_prog_14_method_56_code_3 := dst 32 rd_prog_14_method_56_code_2 rfl
theorem rd_prog_14_method_56_code_4 : prog_14_method_56_code.data.toList.drop 128 = rb_prog_14_method_56_code_4 := dst 32 rd_prog_14_method_56_code_3 rfl
noncomputable def rb_prog_14_method_57_code_6 : List UInt8 := 6 :: 79 :: 132 :: 10 :: 1 :: 167 :: 255 :: 169 :: 132 :: 5 :: 1 :: 167 :: 255 :: 85 :: 177 :: []
noncomputable def rb_prog_14_method_57_code_5 : List UInt8 := 21 :: 10 :: 96 :: 47 :: 148 :: 156 :: 0 :: 29 :: 42 :: 180 :: 0 :: 41 :: 6 :: 28 :: 104 :: 21 :: 10 :: 96 :: 22 :: 11 :: 80 :: 42 :: 180 :: 0 :: 44 :: 6 :: 28 :: 104 :: 21 :: 10 :: 96 :: 21 :: rb_prog_14_method_57_code_6
noncomputable def rb_prog_14_method_57_code_4 : List UInt8 := 33 :: 105 :: 22 :: 8 :: 97 :: 55 :: 11 :: 42 :: 180 :: 0 :: 41 :: 6 :: 28 :: 104 :: 21 :: 10 :: 96 :: 47 :: 9 :: 148 :: 155 :: 0 :: 20 :: 22 :: 11 :: 42 :: 180 :: 0 :: 41 :: 6 :: 28 :: 104 :: rb_prog_14_method_57_code_5
noncomputable def rb_prog_14_method_57_code_3 : List UInt8 := 7 :: 21 :: 6 :: 16 :: 10 :: 112 :: 182 :: 0 :: 238 :: 55 :: 8 :: 3 :: 54 :: 10 :: 21 :: 10 :: 6 :: 162 :: 0 :: 87 :: 42 :: 27 :: 21 :: 7 :: 21 :: 10 :: 21 :: 6 :: 182 :: 0 :: 181 :: 133 :: rb_prog_14_method_57_code_4
noncomputable def rb_prog_14_method_57_code_2 : List UInt8 := 6 :: 108 :: 5 :: 112 :: 104 :: 96 :: 21 :: 5 :: 6 :: 112 :: 96 :: 54 :: 6 :: 42 :: 27 :: 28 :: 21 :: 6 :: 182 :: 0 :: 174 :: 54 :: 7 :: 21 :: 7 :: 16 :: 247 :: 159 :: 0 :: 109 :: 42 :: 21 :: rb_prog_14_method_57_code_3
noncomputable def rb_prog_14_method_57_code_1 : List UInt8 := 21 :: 5 :: 17 :: 0 :: 150 :: 162 :: 0 :: 169 :: 17 :: 3 :: 232 :: 21 :: 5 :: 16 :: 30 :: 108 :: 104 :: 16 :: 100 :: 21 :: 5 :: 16 :: 6 :: 108 :: 8 :: 112 :: 104 :: 96 :: 16 :: 10 :: 21 :: 5 :: rb_prog_14_method_57_code_2
noncomputable def rb_prog_14_method_57_code_0 : List UInt8 := 3 :: 54 :: 5 :: 21 :: 5 :: 6 :: 162 :: 0 :: 23 :: 42 :: 180 :: 0 :: 41 :: 6 :: 28 :: 104 :: 21 :: 5 :: 96 :: 20 :: 0 :: 221 :: 80 :: 132 :: 5 :: 1 :: 167 :: 255 :: 233 :: 3 :: 54 :: 5 :: rb_prog_14_method_57_code_1
theorem rd_prog_14_method_57_code_0 : prog_14_method_57_code.data.toList.drop 0 = rb_prog_14_method_57_code_0 := by decide +kernel
theorem rd_prog_14_method_57_code_1 : prog_14_method_57_code.data.toList.drop 32 = rb_prog_14_method_57_code_1 := dst 32 rd_prog_14_method_57_code_0 rfl
theorem rd_prog_14_method_57_code_2 : prog_14_method_57_code.data.toList.drop 64 = rb_prog_14_method_57_code_2 := dst 32 rd_prog_14_method_57_code_1 rfl
theorem rd_prog_14_method_57_code_3 : prog_14_method_57_code.data.toList.drop 96 = rb_prog_14_method_57_code_3 := dst 32 rd_prog_14_method_57_code_2 rfl
theorem rd_prog_14_method_57_code_4 : prog_14_method_57_code.data.toList.drop 128 = rb_prog_14_method_57_code_4 := dst 32 rd_prog_14_method_57_code_3 rfl
theorem rd_prog_14_method_57_code_5 : prog_14_method_57_code.data.toList.drop 160 = rb_prog_14_method_57_code_5 := dst 32 rd_prog_14_method_57_code_4 rfl
theorem rd_prog_14_method_57_code_6 : prog_14_method_57_code.data.toList.drop 192 = rb_prog_14_method_57_code_6 := dst 32 rd_prog_14_method_57_code_5 rfl
noncomputable def rb_prog_14_method_58_code_1 : List UInt8 := 42 :: 27 :: 182 :: 0 :: 242 :: 42 :: 180 :: 0 :: 38 :: 6 :: 28 :: 104 :: 29 :: 96 :: 47 :: 42 :: 180 :: 0 :: 13 :: 3 :: 46 :: 27 :: 100 :: 184 :: 0 :: 214 :: 21 :: 4 :: 184 :: 0 :: 202 :: 173 :: []
noncomputable def rb_prog_14_method_58_code_0 : List UInt8 := 42 :: 27 :: 182 :: 0 :: 152 :: 154 :: 0 :: 7 :: 20 :: 0 :: 221 :: 173 :: 42 :: 28 :: 182 :: 0 :: 171 :: 153 :: 0 :: 11 :: 42 :: 29 :: 182 :: 0 :: 178 :: 154 :: 0 :: 7 :: 20 :: 0 :: 206 :: 173 :: rb_prog_14_method_58_code_1
theorem rd_prog_14_method_58_code_0 : prog_14_method_58_code.data.toList.drop 0 = rb_prog_14_method_58_code_0 := by decide +kernel
theorem rd_prog_14_method_58_code_1 : prog_14_method_58_code.data.toList.drop 32 = rb_prog_14_method_58_code_1 := dst 32 rd_prog_14_method_58_code_0 rfl
noncomputable def rb_prog_14_method_59_code_1 : List UInt8 := 0 :: 242 :: 42 :: 180 :: 0 :: 44 :: 6 :: 28 :: 104 :: 29 :: 96 :: 46 :: 172 :: []
noncomputable def rb_prog_14_method_59_code_0 : List UInt8 := 42 :: 27 :: 182 :: 0 :: 152 :: 154 :: 0 :: 5 :: 2 :: 172 :: 42 :: 28 :: 182 :: 0 :: 171 :: 153 :: 0 :: 11 :: 42 :: 29 :: 182 :: 0 :: 178 :: 154 :: 0 :: 6 :: 16 :: 254 :: 172 :: 42 :: 27 :: 182 :: rb_prog_14_method_59_code_1
theorem rd_prog_14_method_59_code_0 : prog_14_method_59_code.data.toList.drop 0 = rb_prog_14_method_59_code_0 := by decide +kernel
theorem rd_prog_14_method_59_code_1 : prog_14_method_59_code.data.toList.drop 32 = rb_prog_14_method_59_code_1 := dst 32 rd_prog_14_method_59_code_0 rfl
noncomputable def rb_prog_14_method_60_code_3 : List UInt8 := 10 :: 112 :: 21 :: 6 :: 158 :: 0 :: 8 :: 21 :: 6 :: 167 :: 0 :: 4 :: 3 :: 159 :: 0 :: 5 :: 29 :: 172 :: 132 :: 3 :: 1 :: 167 :: 255 :: 141 :: 16 :: 247 :: 172 :: []
noncomputable def rb_prog_14_method_60_code_2 : List UInt8 := 96 :: 46 :: 54 :: 6 :: 21 :: 6 :: 21 :: 5 :: 162 :: 0 :: 8 :: 21 :: 6 :: 167 :: 0 :: 5 :: 21 :: 5 :: 54 :: 6 :: 42 :: 180 :: 0 :: 44 :: 6 :: 29 :: 104 :: 46 :: 16 :: 100 :: 108 :: 16 :: rb_prog_14_method_60_code_3
noncomputable def rb_prog_14_method_60_code_1 : List UInt8 := 184 :: 0 :: 160 :: 100 :: 54 :: 5 :: 21 :: 4 :: 42 :: 180 :: 0 :: 13 :: 16 :: 15 :: 27 :: 96 :: 46 :: 162 :: 0 :: 8 :: 21 :: 4 :: 167 :: 0 :: 12 :: 42 :: 180 :: 0 :: 13 :: 16 :: 15 :: 27 :: rb_prog_14_method_60_code_2
noncomputable def rb_prog_14_method_60_code_0 : List UInt8 := 3 :: 62 :: 29 :: 17 :: 1 :: 244 :: 162 :: 0 :: 114 :: 42 :: 29 :: 182 :: 0 :: 171 :: 153 :: 0 :: 100 :: 28 :: 29 :: 184 :: 0 :: 160 :: 100 :: 54 :: 4 :: 42 :: 180 :: 0 :: 13 :: 4 :: 46 :: 29 :: rb_prog_14_method_60_code_1
theorem rd_prog_14_method_60_code_0 : prog_14_method_60_code.data.toList.drop 0 = rb_prog_14_method_60_code_0 := by decide +kernel
theorem rd_prog_14_method_60_code_1 : prog_14_method_60_code.data.toList.drop 32 = rb_prog_14_method_60_code_1 := dst 32 rd_prog_14_method_60_code_0 rfl
theorem rd_prog_14_method_60_code_2 : prog_14_method_60_code.data.toList.drop 64 = rb_prog_14_method_60_code_2 := dst 32 rd_prog_14_method_60_code_1 rfl
theorem rd_prog_14_method_60_code_3 : prog_14_method_60_code.data.toList.drop 96 = rb_prog_14_method_60_code_3 := dst 32 rd_prog_14_method_60_code_2 rfl
noncomputable def rb_prog_14_method_61_code_1 : List UInt8 := 5 :: 28 :: 172 :: 132 :: 2 :: 1 :: 167 :: 255 :: 235 :: 16 :: 247 :: 172 :: []
noncomputable def rb_prog_14_method_61_code_0 : List UInt8 := 42 :: 27 :: 182 :: 0 :: 152 :: 154 :: 0 :: 5 :: 2 :: 172 :: 42 :: 27 :: 182 :: 0 :: 242 :: 3 :: 61 :: 28 :: 8 :: 162 :: 0 :: 22 :: 42 :: 27 :: 28 :: 182 :: 0 :: 245 :: 16 :: 247 :: 160 :: 0 :: rb_prog_14_method_61_code_1
theorem rd_prog_14_method_61_code_0 : prog_14_method_61_code.data.toList.drop 0 = rb_prog_14_method_61_code_0 := by decide +kernel
theorem rd_prog_14_method_61_code_1 : prog_14_method_61_code.data.toList.drop 32 = rb_prog_14_method_61_code_1 := dst 32 rd_prog_14_method_61_code_0 rfl
noncomputable def rb_prog_14_method_62_code_1 : List UInt8 := 28 :: 182 :: 0 :: 245 :: 172 :: []
noncomputable def rb_prog_14_method_62_code_0 : List UInt8 := 42 :: 27 :: 182 :: 0 :: 152 :: 154 :: 0 :: 5 :: 2 :: 172 :: 28 :: 133 :: 9 :: 20 :: 0 :: 69 :: 184 :: 0 :: 73 :: 154 :: 0 :: 6 :: 16 :: 254 :: 172 :: 42 :: 27 :: 182 :: 0 :: 242 :: 42 :: 27 :: rb_prog_14_method_62_code_1
theorem rd_prog_14_method_62_code_0 : prog_14_method_62_code.data.toList.drop 0 = rb_prog_14_method_62_code_0 := by decide +kernel
theorem rd_prog_14_method_62_code_1 : prog_14_method_62_code.data.toList.drop 32 = rb_prog_14_method_62_code_1 := dst 32 rd_prog_14_method_62_code_0 rfl
noncomputable def rb_prog_14_method_63_code_5 : List UInt8 := 79 :: 42 :: 180 :: 0 :: 13 :: 16 :: 7 :: 21 :: 6 :: 79 :: 42 :: 180 :: 0 :: 38 :: 3 :: 47 :: 42 :: 180 :: 0 :: 13 :: 3 :: 46 :: 184 :: 0 :: 214 :: 28 :: 184 :: 0 :: 202 :: 173 :: []
noncomputable def rb_prog_14_method_63_code_4 : List UInt8 := 5 :: 21 :: 6 :: 79 :: 42 :: 3 :: 182 :: 0 :: 242 :: 42 :: 180 :: 0 :: 13 :: 7 :: 29 :: 79 :: 42 :: 180 :: 0 :: 13 :: 8 :: 21 :: 4 :: 79 :: 42 :: 180 :: 0 :: 13 :: 16 :: 6 :: 21 :: 5 :: rb_prog_14_method_63_code_5
noncomputable def rb_prog_14_method_63_code_3 : List UInt8 := 126 :: 7 :: 160 :: 0 :: 8 :: 16 :: 247 :: 167 :: 0 :: 5 :: 21 :: 5 :: 79 :: 42 :: 180 :: 0 :: 13 :: 16 :: 7 :: 27 :: 16 :: 8 :: 126 :: 16 :: 8 :: 160 :: 0 :: 8 :: 16 :: 247 :: 167 :: 0 :: rb_prog_14_method_63_code_4
noncomputable def rb_prog_14_method_63_code_2 : List UInt8 := 0 :: 4 :: 29 :: 79 :: 42 :: 180 :: 0 :: 13 :: 8 :: 27 :: 5 :: 126 :: 5 :: 160 :: 0 :: 8 :: 16 :: 247 :: 167 :: 0 :: 5 :: 21 :: 4 :: 79 :: 42 :: 180 :: 0 :: 13 :: 16 :: 6 :: 27 :: 7 :: rb_prog_14_method_63_code_3
noncomputable def rb_prog_14_method_63_code_1 : List UInt8 := 180 :: 0 :: 13 :: 16 :: 6 :: 46 :: 54 :: 5 :: 42 :: 180 :: 0 :: 13 :: 16 :: 7 :: 46 :: 54 :: 6 :: 42 :: 180 :: 0 :: 13 :: 7 :: 27 :: 4 :: 126 :: 4 :: 160 :: 0 :: 8 :: 16 :: 247 :: 167 :: rb_prog_14_method_63_code_2
noncomputable def rb_prog_14_method_63_code_0 : List UInt8 := 27 :: 133 :: 9 :: 20 :: 0 :: 77 :: 184 :: 0 :: 73 :: 154 :: 0 :: 7 :: 20 :: 0 :: 206 :: 173 :: 42 :: 180 :: 0 :: 13 :: 7 :: 46 :: 62 :: 42 :: 180 :: 0 :: 13 :: 8 :: 46 :: 54 :: 4 :: 42 :: rb_prog_14_method_63_code_1
theorem rd_prog_14_method_63_code_0 : prog_14_method_63_code.data.toList.drop 0 = rb_prog_14_method_63_code_0 := by decide +kernel
theorem rd_prog_14_method_63_code_1 : prog_14_method_63_code.data.toList.drop 32 = rb_prog_14_method_63_code_1 := dst 32 rd_prog_14_method_63_code_0 rfl
theorem rd_prog_14_method_63_code_2 : prog_14_method_63_code.data.toList.drop 64 = rb_prog_14_method_63_code_2 := dst 32 rd_prog_14_method_63_code_1 rfl
theorem rd_prog_14_method_63_code_3 : prog_14_method_63_code.data.toList.drop 96 = rb_prog_14_method_63_code_3 := dst 32 rd_prog_14_method_63_code_2 rfl
theorem rd_prog_14_method_63_code_4 : prog_14_method_63_code.data.toList.drop 128 = rb_prog_14_method_63_code_4 := dst 32 rd_prog_14_method_63_code_3 rfl
theorem rd_prog_14_method_63_code_5 : prog_14_method_63_code.data.toList.drop 160 = rb_prog_14_method_63_code_5 := dst 32 rd_prog_14_method_63_code_4 rfl
noncomputable def rb_prog_14_method_64_code_3 : List UInt8 := 180 :: 0 :: 47 :: 7 :: 92 :: 46 :: 29 :: 96 :: 79 :: 42 :: 27 :: 16 :: 10 :: 112 :: 181 :: 0 :: 140 :: 42 :: 28 :: 181 :: 0 :: 143 :: 29 :: 172 :: []
noncomputable def rb_prog_14_method_64_code_2 : List UInt8 := 180 :: 0 :: 47 :: 3 :: 46 :: 28 :: 42 :: 180 :: 0 :: 47 :: 5 :: 46 :: 27 :: 182 :: 0 :: 181 :: 62 :: 42 :: 180 :: 0 :: 47 :: 4 :: 28 :: 79 :: 42 :: 180 :: 0 :: 47 :: 6 :: 4 :: 79 :: 42 :: rb_prog_14_method_64_code_3
noncomputable def rb_prog_14_method_64_code_1 : List UInt8 := 167 :: 0 :: 20 :: 42 :: 42 :: 180 :: 0 :: 47 :: 3 :: 46 :: 42 :: 180 :: 0 :: 47 :: 4 :: 46 :: 27 :: 182 :: 0 :: 174 :: 61 :: 28 :: 16 :: 247 :: 160 :: 0 :: 6 :: 16 :: 253 :: 172 :: 42 :: 42 :: rb_prog_14_method_64_code_2
noncomputable def rb_prog_14_method_64_code_0 : List UInt8 := 27 :: 156 :: 0 :: 6 :: 16 :: 254 :: 172 :: 42 :: 180 :: 0 :: 47 :: 6 :: 46 :: 4 :: 159 :: 0 :: 16 :: 42 :: 42 :: 180 :: 0 :: 47 :: 3 :: 46 :: 182 :: 0 :: 152 :: 154 :: 0 :: 8 :: 16 :: 247 :: rb_prog_14_method_64_code_1
theorem rd_prog_14_method_64_code_0 : prog_14_method_64_code.data.toList.drop 0 = rb_prog_14_method_64_code_0 := by decide +kernel
theorem rd_prog_14_method_64_code_1 : prog_14_method_64_code.data.toList.drop 32 = rb_prog_14_method_64_code_1 := dst 32 rd_prog_14_method_64_code_0 rfl
theorem rd_prog_14_method_64_code_2 : prog_14_method_64_code.data.toList.drop 64 = rb_prog_14_method_64_code_2 := dst 32 rd_prog_14_method_64_code_1 rfl
theorem rd_prog_14_method_64_code_3 : prog_14_method_64_code.data.toList.drop 96 = rb_prog_14_method_64_code_3 := dst 32 rd_prog_14_method_64_code_2 rfl
noncomputable def rb_prog_14_method_65_code_2 : List UInt8 := 172 :: []
noncomputable def rb_prog_14_method_65_code_1 : List UInt8 := 10 :: 112 :: 100 :: 54 :: 4 :: 28 :: 155 :: 0 :: 12 :: 29 :: 155 :: 0 :: 8 :: 21 :: 4 :: 156 :: 0 :: 8 :: 16 :: 247 :: 167 :: 0 :: 12 :: 16 :: 10 :: 28 :: 104 :: 29 :: 96 :: 21 :: 4 :: 96 :: rb_prog_14_method_65_code_2
noncomputable def rb_prog_14_method_65_code_0 : List UInt8 := 26 :: 16 :: 100 :: 108 :: 27 :: 16 :: 100 :: 108 :: 100 :: 61 :: 26 :: 16 :: 10 :: 108 :: 16 :: 10 :: 112 :: 27 :: 16 :: 10 :: 108 :: 16 :: 10 :: 112 :: 100 :: 62 :: 26 :: 16 :: 10 :: 112 :: 27 :: 16 :: rb_prog_14_method_65_code_1
theorem rd_prog_14_method_65_code_0 : prog_14_method_65_code.data.toList.drop 0 = rb_prog_14_method_65_code_0 := by decide +kernel
theorem rd_prog_14_method_65_code_1 : prog_14_method_65_code.data.toList.drop 32 = rb_prog_14_method_65_code_1 := dst 32 rd_prog_14_method_65_code_0 rfl
theorem rd_prog_14_method_65_code_2 : prog_14_method_65_code.data.toList.drop 64 = rb_prog_14_method_65_code_2 := dst 32 rd_prog_14_method_65_code_1 rfl
noncomputable def rb_prog_14_method_66_code_1 : List UInt8 := 167 :: 0 :: 4 :: 3 :: 172 :: []
noncomputable def rb_prog_14_method_66_code_0 : List UInt8 := 26 :: 133 :: 9 :: 20 :: 0 :: 248 :: 184 :: 0 :: 73 :: 153 :: 0 :: 26 :: 26 :: 16 :: 10 :: 108 :: 16 :: 10 :: 112 :: 8 :: 162 :: 0 :: 15 :: 26 :: 16 :: 10 :: 112 :: 8 :: 162 :: 0 :: 7 :: 4 :: rb_prog_14_method_66_code_1
theorem rd_prog_14_method_66_code_0 : prog_14_method_66_code.data.toList.drop 0 = rb_prog_14_method_66_code_0 := by decide +kernel
theorem rd_prog_14_method_66_code_1 : prog_14_method_66_code.data.toList.drop 32 = rb_prog_14_method_66_code_1 := dst 32 rd_prog_14_method_66_code_0 rfl
noncomputable def rb_prog_14_method_67_code_3 : List UInt8 := 3 :: 167 :: 0 :: 13 :: 42 :: 42 :: 180 :: 0 :: 47 :: 4 :: 46 :: 182 :: 0 :: 211 :: 96 :: 79 :: 42 :: 180 :: 0 :: 47 :: 4 :: 46 :: 184 :: 0 :: 160 :: 172 :: []
noncomputable def rb_prog_14_method_67_code_2 : List UInt8 := 42 :: 180 :: 0 :: 140 :: 79 :: 42 :: 180 :: 0 :: 47 :: 6 :: 3 :: 79 :: 42 :: 180 :: 0 :: 47 :: 7 :: 92 :: 46 :: 42 :: 42 :: 180 :: 0 :: 47 :: 3 :: 46 :: 182 :: 0 :: 152 :: 153 :: 0 :: 7 :: rb_prog_14_method_67_code_3
noncomputable def rb_prog_14_method_67_code_1 : List UInt8 := 16 :: 253 :: 172 :: 42 :: 180 :: 0 :: 47 :: 4 :: 42 :: 180 :: 0 :: 143 :: 27 :: 184 :: 0 :: 253 :: 79 :: 42 :: 180 :: 0 :: 47 :: 3 :: 92 :: 46 :: 4 :: 96 :: 79 :: 42 :: 180 :: 0 :: 47 :: 5 :: rb_prog_14_method_67_code_2
noncomputable def rb_prog_14_method_67_code_0 : List UInt8 := 27 :: 184 :: 0 :: 250 :: 154 :: 0 :: 6 :: 16 :: 254 :: 172 :: 42 :: 180 :: 0 :: 47 :: 6 :: 46 :: 153 :: 0 :: 16 :: 42 :: 180 :: 0 :: 143 :: 27 :: 184 :: 0 :: 253 :: 16 :: 247 :: 160 :: 0 :: 6 :: rb_prog_14_method_67_code_1
theorem rd_prog_14_method_67_code_0 : prog_14_method_67_code.data.toList.drop 0 = rb_prog_14_method_67_code_0 := by decide +kernel
theorem rd_prog_14_method_67_code_1 : prog_14_method_67_code.data.toList.drop 32 = rb_prog_14_method_67_code_1 := dst 32 rd_prog_14_method_67_code_0 rfl
theorem rd_prog_14_method_67_code_2 : prog_14_method_67_code.data.toList.drop 64 = rb_prog_14_method_67_code_2 := dst 32 rd_prog_14_method_67_code_1 rfl
theorem rd_prog_14_method_67_code_3 : prog_14_method_67_code.data.toList.drop 96 = rb_prog_14_method_67_code_3 := dst 32 rd_prog_14_method_67_code_2 rfl
noncomputable def rb_prog_14_method_68_code_0 : List UInt8 := 27 :: 133 :: 9 :: 20 :: 0 :: 69 :: 184 :: 0 :: 73 :: 153 :: 0 :: 12 :: 42 :: 180 :: 0 :: 47 :: 27 :: 46 :: 167 :: 0 :: 5 :: 16 :: 254 :: 172 :: []
theorem rd_prog_14_method_68_code_0 : prog_14_method_68_code.data.toList.drop 0 = rb_prog_14_method_68_code_0 := by decide +kernel
noncomputable def rb_prog_14_method_69_code_3 : List UInt8 := 172 :: []
noncomputable def rb_prog_14_method_69_code_2 : List UInt8 := 42 :: 180 :: 0 :: 54 :: 16 :: 7 :: 27 :: 104 :: 8 :: 96 :: 42 :: 180 :: 0 :: 140 :: 79 :: 42 :: 180 :: 0 :: 54 :: 16 :: 7 :: 27 :: 104 :: 16 :: 6 :: 96 :: 42 :: 180 :: 0 :: 143 :: 79 :: 28 :: rb_prog_14_method_69_code_3
noncomputable def rb_prog_14_method_69_code_1 : List UInt8 := 4 :: 84 :: 3 :: 62 :: 29 :: 8 :: 162 :: 0 :: 26 :: 42 :: 180 :: 0 :: 54 :: 16 :: 7 :: 27 :: 104 :: 29 :: 96 :: 42 :: 180 :: 0 :: 47 :: 29 :: 46 :: 79 :: 132 :: 3 :: 1 :: 167 :: 255 :: 231 :: rb_prog_14_method_69_code_2
noncomputable def rb_prog_14_method_69_code_0 : List UInt8 := 27 :: 133 :: 9 :: 10 :: 184 :: 0 :: 73 :: 154 :: 0 :: 5 :: 2 :: 172 :: 42 :: 180 :: 0 :: 50 :: 27 :: 51 :: 153 :: 0 :: 7 :: 3 :: 167 :: 0 :: 4 :: 4 :: 61 :: 42 :: 180 :: 0 :: 50 :: 27 :: rb_prog_14_method_69_code_1
theorem rd_prog_14_method_69_code_0 : prog_14_method_69_code.data.toList.drop 0 = rb_prog_14_method_69_code_0 := by decide +kernel
theorem rd_prog_14_method_69_code_1 : prog_14_method_69_code.data.toList.drop 32 = rb_prog_14_method_69_code_1 := dst 32 rd_prog_14_method_69_code_0 rfl
theorem rd_prog_14_method_69_code_2 : prog_14_method_69_code.data.toList.drop 64 = rb_prog_14_method_69_code_2 := dst 32 rd_prog_14_method_69_code_1 rfl
theorem rd_prog_14_method_69_code_3 : prog_14_method_69_code.data.toList.drop 96 = rb_prog_14_method_69_code_3 := dst 32 rd_prog_14_method_69_code_2 rfl
noncomputable def rb_prog_14_method_70_code_2 : List UInt8 := 96 :: 46 :: 181 :: 0 :: 140 :: 42 :: 42 :: 180 :: 0 :: 54 :: 16 :: 7 :: 27 :: 104 :: 16 :: 6 :: 96 :: 46 :: 181 :: 0 :: 143 :: 42 :: 180 :: 0 :: 47 :: 3 :: 46 :: 172 :: []
noncomputable def rb_prog_14_method_70_code_1 : List UInt8 := 180 :: 0 :: 47 :: 28 :: 42 :: 180 :: 0 :: 54 :: 16 :: 7 :: 27 :: 104 :: 28 :: 96 :: 46 :: 79 :: 132 :: 2 :: 1 :: 167 :: 255 :: 231 :: 42 :: 42 :: 180 :: 0 :: 54 :: 16 :: 7 :: 27 :: 104 :: 8 :: rb_prog_14_method_70_code_2
noncomputable def rb_prog_14_method_70_code_0 : List UInt8 := 27 :: 133 :: 9 :: 10 :: 184 :: 0 :: 73 :: 154 :: 0 :: 5 :: 2 :: 172 :: 42 :: 180 :: 0 :: 50 :: 27 :: 51 :: 154 :: 0 :: 6 :: 16 :: 253 :: 172 :: 3 :: 61 :: 28 :: 8 :: 162 :: 0 :: 26 :: 42 :: rb_prog_14_method_70_code_1
theorem rd_prog_14_method_70_code_0 : prog_14_method_70_code.data.toList.drop 0 = rb_prog_14_method_70_code_0 := by decide +kernel
theorem rd_prog_14_method_70_code_1 : prog_14_method_70_code.data.toList.drop 32 = rb_prog_14_method_70_code_1 := dst 32 rd_prog_14_method_70_code_0 rfl
theorem rd_prog_14_method_70_code_2 : prog_14_method_70_code.data.toList.drop 64 = rb_prog_14_method_70_code_2 := dst 32 rd_prog_14_method_70_code_1 rfl
noncomputable def rb_prog_14_method_71_code_2 : List UInt8 := 180 :: 1 :: 2 :: 172 :: []
noncomputable def rb_prog_14_method_71_code_1 : List UInt8 := 172 :: 42 :: 180 :: 0 :: 57 :: 42 :: 180 :: 1 :: 2 :: 27 :: 79 :: 42 :: 180 :: 0 :: 60 :: 42 :: 180 :: 1 :: 2 :: 28 :: 79 :: 42 :: 89 :: 180 :: 1 :: 2 :: 4 :: 96 :: 181 :: 1 :: 2 :: 42 :: rb_prog_14_method_71_code_2
noncomputable def rb_prog_14_method_71_code_0 : List UInt8 := 27 :: 133 :: 9 :: 20 :: 1 :: 0 :: 184 :: 0 :: 73 :: 153 :: 0 :: 10 :: 28 :: 184 :: 0 :: 250 :: 154 :: 0 :: 6 :: 16 :: 254 :: 172 :: 42 :: 180 :: 1 :: 2 :: 8 :: 160 :: 0 :: 6 :: 16 :: 252 :: rb_prog_14_method_71_code_1
theorem rd_prog_14_method_71_code_0 : prog_14_method_71_code.data.toList.drop 0 = rb_prog_14_method_71_code_0 := by decide +kernel
theorem rd_prog_14_method_71_code_1 : prog_14_method_71_code.data.toList.drop 32 = rb_prog_14_method_71_code_1 := dst 32 rd_prog_14_method_71_code_0 rfl
theorem rd_prog_14_method_71_code_2 : prog_14_method_71_code.data.toList.drop 64 = rb_prog_14_method_71_code_2 := dst 32 rd_prog_14_method_71_code_1 rfl
noncomputable def rb_prog_14_method_72_code_0 : List UInt8 := 42 :: 180 :: 1 :: 2 :: 60 :: 42 :: 3 :: 181 :: 1 :: 2 :: 27 :: 172 :: []
theorem rd_prog_14_method_72_code_0 : prog_14_method_72_code.data.toList.drop 0 = rb_prog_14_method_72_code_0 := by decide +kernel
noncomputable def rb_prog_14_method_73_code_12 : List UInt8 := 182 :: 0 :: 211 :: 133 :: 167 :: 0 :: 4 :: 9 :: 97 :: 181 :: 1 :: 5 :: 16 :: 247 :: 172 :: []
noncomputable def rb_prog_14_method_73_code_11 : List UInt8 := 10 :: 112 :: 61 :: 21 :: 6 :: 60 :: 132 :: 4 :: 1 :: 167 :: 254 :: 181 :: 42 :: 89 :: 180 :: 1 :: 5 :: 42 :: 180 :: 1 :: 2 :: 42 :: 180 :: 0 :: 13 :: 3 :: 46 :: 160 :: 0 :: 12 :: 42 :: 27 :: rb_prog_14_method_73_code_12
noncomputable def rb_prog_14_method_73_code_10 : List UInt8 := 4 :: 167 :: 0 :: 7 :: 42 :: 180 :: 1 :: 15 :: 181 :: 1 :: 15 :: 21 :: 15 :: 29 :: 164 :: 0 :: 8 :: 21 :: 15 :: 167 :: 0 :: 4 :: 29 :: 62 :: 42 :: 180 :: 0 :: 57 :: 21 :: 4 :: 46 :: 16 :: rb_prog_14_method_73_code_11
noncomputable def rb_prog_14_method_73_code_9 : List UInt8 := 167 :: 54 :: 14 :: 21 :: 14 :: 156 :: 0 :: 16 :: 21 :: 14 :: 116 :: 42 :: 180 :: 0 :: 13 :: 6 :: 46 :: 104 :: 167 :: 0 :: 4 :: 3 :: 54 :: 15 :: 42 :: 21 :: 15 :: 29 :: 164 :: 0 :: 8 :: 21 :: rb_prog_14_method_73_code_10
noncomputable def rb_prog_14_method_73_code_8 : List UInt8 := 5 :: 28 :: 42 :: 180 :: 0 :: 57 :: 21 :: 4 :: 46 :: 182 :: 0 :: 181 :: 133 :: 97 :: 181 :: 1 :: 5 :: 42 :: 21 :: 4 :: 21 :: 5 :: 28 :: 42 :: 180 :: 0 :: 57 :: 21 :: 4 :: 46 :: 182 :: 0 :: rb_prog_14_method_73_code_9
noncomputable def rb_prog_14_method_73_code_7 : List UInt8 := 105 :: 181 :: 1 :: 9 :: 42 :: 89 :: 180 :: 1 :: 12 :: 8 :: 21 :: 5 :: 184 :: 0 :: 160 :: 184 :: 0 :: 187 :: 133 :: 105 :: 181 :: 1 :: 12 :: 42 :: 89 :: 180 :: 1 :: 5 :: 42 :: 21 :: 4 :: 21 :: rb_prog_14_method_73_code_8
noncomputable def rb_prog_14_method_73_code_6 : List UInt8 := 104 :: 42 :: 5 :: 21 :: 12 :: 21 :: 12 :: 21 :: 9 :: 100 :: 182 :: 0 :: 190 :: 104 :: 54 :: 13 :: 21 :: 13 :: 154 :: 0 :: 6 :: 21 :: 4 :: 172 :: 42 :: 89 :: 180 :: 1 :: 9 :: 21 :: 13 :: 133 :: rb_prog_14_method_73_code_7
noncomputable def rb_prog_14_method_73_code_5 : List UInt8 := 11 :: 21 :: 5 :: 16 :: 10 :: 112 :: 54 :: 12 :: 42 :: 3 :: 21 :: 10 :: 21 :: 10 :: 21 :: 7 :: 100 :: 182 :: 0 :: 190 :: 42 :: 4 :: 21 :: 11 :: 21 :: 11 :: 21 :: 8 :: 100 :: 182 :: 0 :: 190 :: rb_prog_14_method_73_code_6
noncomputable def rb_prog_14_method_73_code_4 : List UInt8 := 10 :: 112 :: 54 :: 8 :: 42 :: 180 :: 0 :: 60 :: 21 :: 4 :: 46 :: 16 :: 10 :: 112 :: 54 :: 9 :: 21 :: 5 :: 16 :: 100 :: 108 :: 54 :: 10 :: 21 :: 5 :: 16 :: 10 :: 108 :: 16 :: 10 :: 112 :: 54 :: rb_prog_14_method_73_code_5
noncomputable def rb_prog_14_method_73_code_3 : List UInt8 := 6 :: 16 :: 247 :: 160 :: 0 :: 6 :: 21 :: 4 :: 172 :: 42 :: 180 :: 0 :: 60 :: 21 :: 4 :: 46 :: 16 :: 100 :: 108 :: 54 :: 7 :: 42 :: 180 :: 0 :: 60 :: 21 :: 4 :: 46 :: 16 :: 10 :: 108 :: 16 :: rb_prog_14_method_73_code_4
noncomputable def rb_prog_14_method_73_code_2 : List UInt8 := 5 :: 16 :: 247 :: 54 :: 5 :: 21 :: 5 :: 16 :: 247 :: 160 :: 0 :: 8 :: 16 :: 247 :: 167 :: 0 :: 15 :: 21 :: 5 :: 42 :: 180 :: 0 :: 60 :: 21 :: 4 :: 46 :: 184 :: 0 :: 253 :: 54 :: 6 :: 21 :: rb_prog_14_method_73_code_3
noncomputable def rb_prog_14_method_73_code_1 : List UInt8 := 42 :: 180 :: 1 :: 2 :: 162 :: 1 :: 72 :: 42 :: 21 :: 4 :: 182 :: 0 :: 152 :: 153 :: 0 :: 20 :: 42 :: 21 :: 4 :: 27 :: 42 :: 180 :: 0 :: 57 :: 21 :: 4 :: 46 :: 182 :: 0 :: 174 :: 167 :: 0 :: rb_prog_14_method_73_code_2
noncomputable def rb_prog_14_method_73_code_0 : List UInt8 := 3 :: 60 :: 3 :: 61 :: 3 :: 62 :: 42 :: 9 :: 181 :: 1 :: 5 :: 42 :: 10 :: 181 :: 1 :: 9 :: 42 :: 10 :: 181 :: 1 :: 12 :: 42 :: 16 :: 247 :: 181 :: 1 :: 15 :: 3 :: 54 :: 4 :: 21 :: 4 :: rb_prog_14_method_73_code_1
theorem rd_prog_14_method_73_code_0 : prog_14_method_73_code.data.toList.drop 0 = rb_prog_14_method_73_code_0 := by decide +kernel
theorem rd_prog_14_method_73_code_1 : prog_14_method_73_code.data.toList.drop 32 = rb_prog_14_method_73_code_1 := dst 32 rd_prog_14_method_73_code_0 rfl
theorem rd_prog_14_method_73_code_2 : prog_14_method_73_code.data.toList.drop 64 = rb_prog_14_method_73_code_2 := dst 32 rd_prog_14_method_73_code_1 rfl
theorem rd_prog_14_method_73_code_3 : prog_14_method_73_code.data.toList.drop 96 = rb_prog_14_method_73_code_3 := dst 32 rd_prog_14_method_73_code_2 rfl
theorem rd_prog_14_method_73_code_4 : prog_14_method_73_code.data.toList.drop 128 = rb_prog_14_method_73_code_4 := dst 32 rd_prog_14_method_73_code_3 rfl
theorem rd_prog_14_method_73_code_5 : prog_14_method_73_code.data.toList.drop 160 = rb_prog_14_method_73_code_5 := dst 32 rd_prog_14_method_73_code_4 rfl
theorem rd_prog_14_method_73_code_6 : prog_14_method_73_code.data.toList.drop 192 = rb_prog_14_method_73_code_6 := dst 32 rd_prog_14_method_73_code_5 rfl
theorem rd_prog_14_method_73_code_7 : prog_14_method_73_code.data.toList.drop 224 = rb_prog_14_method_73_code_7 := dst 32 rd_prog_14_method_73_code_6 rfl
theorem rd_prog_14_method_73_code_8 : prog_14_method_73_code.data.toList.drop 256 = rb_prog_14_method_73_code_8 := dst 32 rd_prog_14_method_73_code_7 rfl
theorem rd_prog_14_method_73_code_9 : prog_14_method_73_code.data.toList.drop 288 = rb_prog_14_method_73_code_9 := dst 32 rd_prog_14_method_73_code_8 rfl
theorem rd_prog_14_method_73_code_10 : prog_14_method_73_code.data.toList.drop 320 = rb_prog_14_method_73_code_10 := dst 32 rd_prog_14_method_73_code_9 rfl
theorem rd_prog_14_method_73_code_11 : prog_14_method_73_code.data.toList.drop 352 = rb_prog_14_method_73_code_11 := dst 32 rd_prog_14_method_73_code_10 rfl
theorem rd_prog_14_method_73_code_12 : prog_14_method_73_code.data.toList.drop 384 = rb_prog_14_method_73_code_12 := dst 32 rd_prog_14_method_73_code_11 rfl
noncomputable def rb_prog_14_method_74_code_0 : List UInt8 := 42 :: 182 :: 1 :: 18 :: 172 :: []
theorem rd_prog_14_method_74_code_0 : prog_14_method_74_code.data.toList.drop 0 = rb_prog_14_method_74_code_0 := by decide +kernel
noncomputable def rb_prog_14_method_75_code_0 : List UInt8 := 42 :: 182 :: 1 :: 18 :: 16 :: 247 :: 160 :: 0 :: 11 :: 42 :: 180 :: 1 :: 5 :: 136 :: 167 :: 0 :: 5 :: 16 :: 253 :: 172 :: []
theorem rd_prog_14_method_75_code_0 : prog_14_method_75_code.data.toList.drop 0 = rb_prog_14_method_75_code_0 := by decide +kernel
noncomputable def rb_prog_14_method_76_code_0 : List UInt8 := 42 :: 182 :: 1 :: 18 :: 16 :: 247 :: 160 :: 0 :: 18 :: 42 :: 180 :: 1 :: 9 :: 42 :: 180 :: 1 :: 12 :: 27 :: 184 :: 0 :: 202 :: 167 :: 0 :: 6 :: 20 :: 1 :: 21 :: 173 :: []
theorem rd_prog_14_method_76_code_0 : prog_14_method_76_code.data.toList.drop 0 = rb_prog_14_method_76_code_0 := by decide +kernel
noncomputable def rb_prog_14_method_77_code_0 : List UInt8 := 42 :: 182 :: 1 :: 18 :: 16 :: 247 :: 160 :: 0 :: 10 :: 42 :: 180 :: 1 :: 15 :: 167 :: 0 :: 5 :: 16 :: 253 :: 172 :: []
theorem rd_prog_14_method_77_code_0 : prog_14_method_77_code.data.toList.drop 0 = rb_prog_14_method_77_code_0 := by decide +kernel
noncomputable def rb_prog_14_method_78_code_3 : List UInt8 := 172 :: []
noncomputable def rb_prog_14_method_78_code_2 : List UInt8 := 0 :: 0 :: 0 :: 29 :: 0 :: 0 :: 0 :: 34 :: 0 :: 0 :: 0 :: 39 :: 0 :: 0 :: 0 :: 41 :: 42 :: 180 :: 0 :: 103 :: 172 :: 42 :: 180 :: 1 :: 2 :: 172 :: 28 :: 172 :: 29 :: 172 :: 16 :: 254 :: rb_prog_14_method_78_code_3
noncomputable def rb_prog_14_method_78_code_1 : List UInt8 := 42 :: 180 :: 0 :: 13 :: 16 :: 15 :: 21 :: 4 :: 96 :: 46 :: 96 :: 62 :: 132 :: 4 :: 1 :: 167 :: 255 :: 216 :: 27 :: 170 :: 0 :: 0 :: 0 :: 43 :: 0 :: 0 :: 0 :: 0 :: 0 :: 0 :: 0 :: 3 :: rb_prog_14_method_78_code_2
noncomputable def rb_prog_14_method_78_code_0 : List UInt8 := 3 :: 61 :: 3 :: 62 :: 3 :: 54 :: 4 :: 21 :: 4 :: 42 :: 180 :: 0 :: 13 :: 3 :: 46 :: 162 :: 0 :: 35 :: 28 :: 42 :: 180 :: 0 :: 13 :: 16 :: 10 :: 21 :: 4 :: 96 :: 46 :: 96 :: 61 :: 29 :: rb_prog_14_method_78_code_1
theorem rd_prog_14_method_78_code_0 : prog_14_method_78_code.data.toList.drop 0 = rb_prog_14_method_78_code_0 := by decide +kernel
theorem rd_prog_14_method_78_code_1 : prog_14_method_78_code.data.toList.drop 32 = rb_prog_14_method_78_code_1 := dst 32 rd_prog_14_method_78_code_0 rfl
theorem rd_prog_14_method_78_code_2 : prog_14_method_78_code.data.toList.drop 64 = rb_prog_14_method_78_code_2 := dst 32 rd_prog_14_method_78_code_1 rfl
theorem rd_prog_14_method_78_code_3 : prog_14_method_78_code.data.toList.drop 96 = rb_prog_14_method_78_code_3 := dst 32 rd_prog_14_method_78_code_2 rfl
noncomputable def rb_code_48 : List UInt8 := 42 :: 29 :: 4 :: 96 :: 46 :: 182 :: 0 :: 175 :: 87 :: 167 :: 0 :: 3 :: 132 :: 3 :: 6 :: 167 :: 250 :: 3 :: 4 :: 172 :: []
noncomputable def rb_code_47 : List UInt8 := 3 :: 182 :: 0 :: 167 :: 88 :: 167 :: 0 :: 39 :: 43 :: 182 :: 0 :: 168 :: 87 :: 44 :: 182 :: 0 :: 171 :: 87 :: 167 :: 0 :: 26 :: 43 :: 42 :: 29 :: 4 :: 96 :: 46 :: 182 :: 0 :: 172 :: 87 :: 44 :: rb_code_48
noncomputable def rb_code_46 : List UInt8 := 78 :: 43 :: 42 :: 29 :: 4 :: 96 :: 46 :: 153 :: 0 :: 7 :: 4 :: 167 :: 0 :: 4 :: 3 :: 182 :: 0 :: 163 :: 88 :: 44 :: 42 :: 29 :: 4 :: 96 :: 46 :: 153 :: 0 :: 7 :: 4 :: 167 :: 0 :: 4 :: rb_code_47
noncomputable def rb_code_45 : List UInt8 := 182 :: 0 :: 154 :: 87 :: 167 :: 0 :: 104 :: 43 :: 182 :: 0 :: 155 :: 87 :: 44 :: 182 :: 0 :: 158 :: 87 :: 167 :: 0 :: 91 :: 43 :: 182 :: 0 :: 159 :: 87 :: 44 :: 182 :: 0 :: 162 :: 87 :: 167 :: 0 :: rb_code_46
noncomputable def rb_code_44 : List UInt8 := 29 :: 5 :: 96 :: 46 :: 182 :: 0 :: 147 :: 87 :: 44 :: 42 :: 29 :: 4 :: 96 :: 46 :: 42 :: 29 :: 5 :: 96 :: 46 :: 182 :: 0 :: 150 :: 87 :: 167 :: 0 :: 117 :: 43 :: 182 :: 0 :: 151 :: 87 :: 44 :: rb_code_45
noncomputable def rb_code_43 : List UInt8 := 0 :: 173 :: 43 :: 42 :: 29 :: 4 :: 96 :: 46 :: 182 :: 0 :: 143 :: 87 :: 44 :: 42 :: 29 :: 4 :: 96 :: 46 :: 182 :: 0 :: 146 :: 87 :: 167 :: 0 :: 150 :: 43 :: 42 :: 29 :: 4 :: 96 :: 46 :: 42 :: rb_code_44
noncomputable def rb_code_42 : List UInt8 := 29 :: 4 :: 96 :: 46 :: 182 :: 0 :: 138 :: 87 :: 167 :: 0 :: 196 :: 43 :: 42 :: 29 :: 4 :: 96 :: 46 :: 182 :: 0 :: 139 :: 87 :: 44 :: 42 :: 29 :: 4 :: 96 :: 46 :: 182 :: 0 :: 142 :: 87 :: 167 :: rb_code_43
noncomputable def rb_code_41 : List UInt8 := 4 :: 96 :: 46 :: 182 :: 0 :: 131 :: 87 :: 44 :: 42 :: 29 :: 4 :: 96 :: 46 :: 182 :: 0 :: 134 :: 87 :: 167 :: 0 :: 219 :: 43 :: 42 :: 29 :: 4 :: 96 :: 46 :: 182 :: 0 :: 135 :: 87 :: 44 :: 42 :: rb_code_42
noncomputable def rb_code_40 : List UInt8 := 0 :: 126 :: 88 :: 167 :: 1 :: 9 :: 43 :: 42 :: 29 :: 4 :: 96 :: 46 :: 182 :: 0 :: 127 :: 87 :: 44 :: 42 :: 29 :: 4 :: 96 :: 46 :: 182 :: 0 :: 130 :: 87 :: 167 :: 0 :: 242 :: 43 :: 42 :: 29 :: rb_code_41
noncomputable def rb_code_39 : List UInt8 := 153 :: 0 :: 7 :: 4 :: 167 :: 0 :: 4 :: 3 :: 182 :: 0 :: 122 :: 88 :: 44 :: 42 :: 29 :: 4 :: 96 :: 46 :: 42 :: 29 :: 5 :: 96 :: 46 :: 153 :: 0 :: 7 :: 4 :: 167 :: 0 :: 4 :: 3 :: 182 :: rb_code_40
noncomputable def rb_code_38 : List UInt8 := 0 :: 118 :: 87 :: 44 :: 42 :: 29 :: 4 :: 96 :: 46 :: 42 :: 29 :: 5 :: 96 :: 46 :: 182 :: 0 :: 121 :: 87 :: 167 :: 1 :: 58 :: 43 :: 42 :: 29 :: 4 :: 96 :: 46 :: 42 :: 29 :: 5 :: 96 :: 46 :: rb_code_39
noncomputable def rb_code_37 : List UInt8 := 4 :: 96 :: 46 :: 182 :: 0 :: 114 :: 87 :: 44 :: 42 :: 29 :: 4 :: 96 :: 46 :: 182 :: 0 :: 117 :: 87 :: 167 :: 1 :: 91 :: 43 :: 42 :: 29 :: 4 :: 96 :: 46 :: 42 :: 29 :: 5 :: 96 :: 46 :: 182 :: rb_code_38
noncomputable def rb_code_36 : List UInt8 := 96 :: 46 :: 182 :: 0 :: 110 :: 87 :: 44 :: 42 :: 29 :: 4 :: 96 :: 46 :: 42 :: 29 :: 5 :: 96 :: 46 :: 42 :: 29 :: 6 :: 96 :: 46 :: 182 :: 0 :: 113 :: 87 :: 167 :: 1 :: 114 :: 43 :: 42 :: 29 :: rb_code_37
noncomputable def rb_code_35 : List UInt8 := 7 :: 96 :: 46 :: 153 :: 0 :: 7 :: 4 :: 167 :: 0 :: 4 :: 3 :: 182 :: 0 :: 109 :: 88 :: 167 :: 1 :: 157 :: 43 :: 42 :: 29 :: 4 :: 96 :: 46 :: 42 :: 29 :: 5 :: 96 :: 46 :: 42 :: 29 :: 6 :: rb_code_36
noncomputable def rb_code_34 : List UInt8 := 96 :: 46 :: 153 :: 0 :: 7 :: 4 :: 167 :: 0 :: 4 :: 3 :: 182 :: 0 :: 106 :: 88 :: 44 :: 42 :: 29 :: 4 :: 96 :: 46 :: 42 :: 29 :: 5 :: 96 :: 46 :: 42 :: 29 :: 6 :: 96 :: 46 :: 42 :: 29 :: rb_code_35
noncomputable def rb_code_33 : List UInt8 := 43 :: 182 :: 0 :: 102 :: 87 :: 44 :: 182 :: 0 :: 105 :: 87 :: 167 :: 1 :: 226 :: 43 :: 42 :: 29 :: 4 :: 96 :: 46 :: 42 :: 29 :: 5 :: 96 :: 46 :: 42 :: 29 :: 6 :: 96 :: 46 :: 42 :: 29 :: 7 :: rb_code_34
noncomputable def rb_code_32 : List UInt8 := 42 :: 29 :: 5 :: 96 :: 46 :: 42 :: 29 :: 6 :: 96 :: 46 :: 42 :: 29 :: 7 :: 96 :: 46 :: 153 :: 0 :: 7 :: 4 :: 167 :: 0 :: 4 :: 3 :: 182 :: 0 :: 101 :: 148 :: 153 :: 1 :: 241 :: 3 :: 172 :: rb_code_33
noncomputable def rb_code_31 : List UInt8 := 42 :: 29 :: 5 :: 96 :: 46 :: 42 :: 29 :: 6 :: 96 :: 46 :: 42 :: 29 :: 7 :: 96 :: 46 :: 153 :: 0 :: 7 :: 4 :: 167 :: 0 :: 4 :: 3 :: 182 :: 0 :: 97 :: 44 :: 42 :: 29 :: 4 :: 96 :: 46 :: rb_code_32
noncomputable def rb_code_30 : List UInt8 := 46 :: 42 :: 29 :: 5 :: 96 :: 46 :: 42 :: 29 :: 6 :: 96 :: 46 :: 153 :: 0 :: 7 :: 4 :: 167 :: 0 :: 4 :: 3 :: 182 :: 0 :: 96 :: 88 :: 167 :: 2 :: 53 :: 43 :: 42 :: 29 :: 4 :: 96 :: 46 :: rb_code_31
noncomputable def rb_code_29 : List UInt8 := 42 :: 29 :: 4 :: 96 :: 46 :: 42 :: 29 :: 5 :: 96 :: 46 :: 42 :: 29 :: 6 :: 96 :: 46 :: 153 :: 0 :: 7 :: 4 :: 167 :: 0 :: 4 :: 3 :: 182 :: 0 :: 93 :: 88 :: 44 :: 42 :: 29 :: 4 :: 96 :: rb_code_30
noncomputable def rb_code_28 : List UInt8 := 44 :: 42 :: 29 :: 4 :: 96 :: 46 :: 42 :: 29 :: 5 :: 96 :: 46 :: 42 :: 29 :: 6 :: 96 :: 46 :: 153 :: 0 :: 7 :: 4 :: 167 :: 0 :: 4 :: 3 :: 182 :: 0 :: 92 :: 88 :: 167 :: 2 :: 112 :: 43 :: rb_code_29
noncomputable def rb_code_27 : List UInt8 := 88 :: 167 :: 2 :: 171 :: 43 :: 42 :: 29 :: 4 :: 96 :: 46 :: 42 :: 29 :: 5 :: 96 :: 46 :: 42 :: 29 :: 6 :: 96 :: 46 :: 153 :: 0 :: 7 :: 4 :: 167 :: 0 :: 4 :: 3 :: 182 :: 0 :: 89 :: 88 :: rb_code_28
noncomputable def rb_code_26 : List UInt8 := 46 :: 42 :: 29 :: 5 :: 96 :: 46 :: 42 :: 29 :: 6 :: 96 :: 46 :: 42 :: 29 :: 7 :: 96 :: 46 :: 42 :: 29 :: 8 :: 96 :: 46 :: 153 :: 0 :: 7 :: 4 :: 167 :: 0 :: 4 :: 3 :: 182 :: 0 :: 88 :: rb_code_27
noncomputable def rb_code_25 : List UInt8 := 42 :: 29 :: 6 :: 96 :: 46 :: 42 :: 29 :: 7 :: 96 :: 46 :: 42 :: 29 :: 8 :: 96 :: 46 :: 153 :: 0 :: 7 :: 4 :: 167 :: 0 :: 4 :: 3 :: 182 :: 0 :: 84 :: 88 :: 44 :: 42 :: 29 :: 4 :: 96 :: rb_code_26
noncomputable def rb_code_24 : List UInt8 := 29 :: 4 :: 96 :: 46 :: 42 :: 29 :: 5 :: 96 :: 46 :: 42 :: 29 :: 6 :: 96 :: 46 :: 182 :: 0 :: 83 :: 87 :: 167 :: 2 :: 250 :: 43 :: 42 :: 29 :: 4 :: 96 :: 46 :: 42 :: 29 :: 5 :: 96 :: 46 :: rb_code_25
noncomputable def rb_code_23 : List UInt8 := 0 :: 4 :: 3 :: 182 :: 0 :: 79 :: 88 :: 167 :: 3 :: 37 :: 43 :: 42 :: 29 :: 4 :: 96 :: 46 :: 42 :: 29 :: 5 :: 96 :: 46 :: 42 :: 29 :: 6 :: 96 :: 46 :: 182 :: 0 :: 80 :: 87 :: 44 :: 42 :: rb_code_24
noncomputable def rb_code_22 : List UInt8 := 0 :: 7 :: 4 :: 167 :: 0 :: 4 :: 3 :: 182 :: 0 :: 75 :: 88 :: 44 :: 42 :: 29 :: 4 :: 96 :: 46 :: 42 :: 29 :: 5 :: 96 :: 46 :: 42 :: 29 :: 6 :: 96 :: 46 :: 153 :: 0 :: 7 :: 4 :: 167 :: rb_code_23
noncomputable def rb_code_21 : List UInt8 := 153 :: 0 :: 7 :: 4 :: 167 :: 0 :: 4 :: 3 :: 182 :: 0 :: 74 :: 87 :: 167 :: 3 :: 96 :: 43 :: 42 :: 29 :: 4 :: 96 :: 46 :: 42 :: 29 :: 5 :: 96 :: 46 :: 42 :: 29 :: 6 :: 96 :: 46 :: 153 :: rb_code_22
noncomputable def rb_code_20 : List UInt8 := 4 :: 3 :: 182 :: 0 :: 70 :: 87 :: 44 :: 42 :: 29 :: 4 :: 96 :: 46 :: 42 :: 29 :: 5 :: 96 :: 46 :: 42 :: 29 :: 6 :: 96 :: 46 :: 42 :: 29 :: 7 :: 96 :: 46 :: 42 :: 29 :: 8 :: 96 :: 46 :: rb_code_21
noncomputable def rb_code_19 : List UInt8 := 43 :: 42 :: 29 :: 4 :: 96 :: 46 :: 42 :: 29 :: 5 :: 96 :: 46 :: 42 :: 29 :: 6 :: 96 :: 46 :: 42 :: 29 :: 7 :: 96 :: 46 :: 42 :: 29 :: 8 :: 96 :: 46 :: 153 :: 0 :: 7 :: 4 :: 167 :: 0 :: rb_code_20
noncomputable def rb_code_18 : List UInt8 := 182 :: 0 :: 65 :: 87 :: 44 :: 42 :: 29 :: 4 :: 96 :: 46 :: 42 :: 29 :: 5 :: 96 :: 46 :: 42 :: 29 :: 6 :: 96 :: 46 :: 42 :: 29 :: 7 :: 96 :: 46 :: 182 :: 0 :: 69 :: 87 :: 167 :: 3 :: 175 :: rb_code_19
noncomputable def rb_code_17 : List UInt8 := 29 :: 6 :: 96 :: 46 :: 182 :: 0 :: 64 :: 87 :: 167 :: 3 :: 228 :: 43 :: 42 :: 29 :: 4 :: 96 :: 46 :: 42 :: 29 :: 5 :: 96 :: 46 :: 42 :: 29 :: 6 :: 96 :: 46 :: 42 :: 29 :: 7 :: 96 :: 46 :: rb_code_18
noncomputable def rb_code_16 : List UInt8 := 43 :: 42 :: 29 :: 4 :: 96 :: 46 :: 42 :: 29 :: 5 :: 96 :: 46 :: 42 :: 29 :: 6 :: 96 :: 46 :: 182 :: 0 :: 61 :: 87 :: 44 :: 42 :: 29 :: 4 :: 96 :: 46 :: 42 :: 29 :: 5 :: 96 :: 46 :: 42 :: rb_code_17
noncomputable def rb_code_15 : List UInt8 := 42 :: 29 :: 6 :: 96 :: 46 :: 182 :: 0 :: 56 :: 87 :: 44 :: 42 :: 29 :: 4 :: 96 :: 46 :: 42 :: 29 :: 5 :: 96 :: 46 :: 42 :: 29 :: 6 :: 96 :: 46 :: 182 :: 0 :: 60 :: 87 :: 167 :: 4 :: 15 :: rb_code_16
noncomputable def rb_code_14 : List UInt8 := 29 :: 4 :: 96 :: 46 :: 182 :: 0 :: 52 :: 87 :: 44 :: 42 :: 29 :: 4 :: 96 :: 46 :: 182 :: 0 :: 55 :: 87 :: 167 :: 4 :: 58 :: 43 :: 42 :: 29 :: 4 :: 96 :: 46 :: 42 :: 29 :: 5 :: 96 :: 46 :: rb_code_15
noncomputable def rb_code_13 : List UInt8 := 4 :: 96 :: 46 :: 42 :: 29 :: 5 :: 96 :: 46 :: 182 :: 0 :: 48 :: 87 :: 44 :: 42 :: 29 :: 4 :: 96 :: 46 :: 42 :: 29 :: 5 :: 96 :: 46 :: 182 :: 0 :: 51 :: 87 :: 167 :: 4 :: 81 :: 43 :: 42 :: rb_code_14
noncomputable def rb_code_12 : List UInt8 := 96 :: 46 :: 42 :: 29 :: 5 :: 96 :: 46 :: 182 :: 0 :: 44 :: 87 :: 44 :: 42 :: 29 :: 4 :: 96 :: 46 :: 42 :: 29 :: 5 :: 96 :: 46 :: 182 :: 0 :: 47 :: 87 :: 167 :: 4 :: 114 :: 43 :: 42 :: 29 :: rb_code_13
noncomputable def rb_code_11 : List UInt8 := 46 :: 42 :: 29 :: 5 :: 96 :: 46 :: 182 :: 0 :: 39 :: 87 :: 44 :: 42 :: 29 :: 4 :: 96 :: 46 :: 42 :: 29 :: 5 :: 96 :: 46 :: 182 :: 0 :: 43 :: 87 :: 167 :: 4 :: 147 :: 43 :: 42 :: 29 :: 4 :: rb_code_12
noncomputable def rb_code_10 : List UInt8 := 87 :: 167 :: 4 :: 203 :: 43 :: 42 :: 29 :: 4 :: 96 :: 46 :: 182 :: 0 :: 34 :: 87 :: 44 :: 42 :: 29 :: 4 :: 96 :: 46 :: 182 :: 0 :: 38 :: 87 :: 167 :: 4 :: 180 :: 43 :: 42 :: 29 :: 4 :: 96 :: rb_code_11
noncomputable def rb_code_9 : List UInt8 := 25 :: 87 :: 44 :: 42 :: 29 :: 4 :: 96 :: 46 :: 153 :: 0 :: 7 :: 4 :: 167 :: 0 :: 4 :: 3 :: 182 :: 0 :: 29 :: 87 :: 167 :: 4 :: 216 :: 43 :: 182 :: 0 :: 30 :: 87 :: 44 :: 182 :: 0 :: 33 :: rb_code_10
noncomputable def rb_code_8 : List UInt8 := 167 :: 5 :: 12 :: 43 :: 182 :: 0 :: 20 :: 87 :: 44 :: 182 :: 0 :: 24 :: 87 :: 167 :: 4 :: 255 :: 43 :: 42 :: 29 :: 4 :: 96 :: 46 :: 153 :: 0 :: 7 :: 4 :: 167 :: 0 :: 4 :: 3 :: 182 :: 0 :: rb_code_9
noncomputable def rb_code_7 : List UInt8 := 15 :: 87 :: 44 :: 42 :: 29 :: 4 :: 96 :: 46 :: 42 :: 29 :: 5 :: 96 :: 46 :: 133 :: 16 :: 32 :: 121 :: 42 :: 29 :: 6 :: 96 :: 46 :: 133 :: 20 :: 0 :: 13 :: 127 :: 129 :: 182 :: 0 :: 19 :: 87 :: rb_code_8
noncomputable def rb_code_6 : List UInt8 := 0 :: 0 :: 5 :: 212 :: 43 :: 42 :: 29 :: 4 :: 96 :: 46 :: 42 :: 29 :: 5 :: 96 :: 46 :: 133 :: 16 :: 32 :: 121 :: 42 :: 29 :: 6 :: 96 :: 46 :: 133 :: 20 :: 0 :: 13 :: 127 :: 129 :: 182 :: 0 :: rb_code_7
noncomputable def rb_code_5 : List UInt8 := 0 :: 0 :: 5 :: 42 :: 0 :: 0 :: 5 :: 65 :: 0 :: 0 :: 5 :: 88 :: 0 :: 0 :: 5 :: 121 :: 0 :: 0 :: 5 :: 134 :: 0 :: 0 :: 5 :: 147 :: 0 :: 0 :: 5 :: 160 :: 0 :: 0 :: 5 :: 199 :: rb_code_6
noncomputable def rb_code_4 : List UInt8 := 0 :: 0 :: 4 :: 12 :: 0 :: 0 :: 4 :: 81 :: 0 :: 0 :: 4 :: 124 :: 0 :: 0 :: 4 :: 147 :: 0 :: 0 :: 4 :: 180 :: 0 :: 0 :: 4 :: 229 :: 0 :: 0 :: 4 :: 252 :: 0 :: 0 :: 5 :: 19 :: rb_code_5
noncomputable def rb_code_3 : List UInt8 := 0 :: 0 :: 2 :: 63 :: 0 :: 0 :: 2 :: 142 :: 0 :: 0 :: 2 :: 201 :: 0 :: 0 :: 2 :: 244 :: 0 :: 0 :: 3 :: 67 :: 0 :: 0 :: 3 :: 126 :: 0 :: 0 :: 3 :: 185 :: 0 :: 0 :: 3 :: 255 :: rb_code_4
noncomputable def rb_code_2 : List UInt8 := 0 :: 0 :: 1 :: 35 :: 0 :: 0 :: 1 :: 58 :: 0 :: 0 :: 1 :: 91 :: 0 :: 0 :: 1 :: 124 :: 0 :: 0 :: 1 :: 157 :: 0 :: 0 :: 1 :: 180 :: 0 :: 0 :: 1 :: 223 :: 0 :: 0 :: 2 :: 10 :: rb_code_3
noncomputable def rb_code_1 : List UInt8 := 126 :: 170 :: 0 :: 0 :: 0 :: 0 :: 5 :: 235 :: 0 :: 0 :: 0 :: 0 :: 0 :: 0 :: 0 :: 36 :: 0 :: 0 :: 0 :: 163 :: 0 :: 0 :: 0 :: 226 :: 0 :: 0 :: 0 :: 239 :: 0 :: 0 :: 1 :: 22 :: rb_code_2
noncomputable def rb_code_0 : List UInt8 := 187 :: 0 :: 7 :: 89 :: 183 :: 0 :: 9 :: 76 :: 187 :: 0 :: 10 :: 89 :: 183 :: 0 :: 12 :: 77 :: 3 :: 62 :: 29 :: 42 :: 190 :: 16 :: 6 :: 100 :: 163 :: 5 :: 250 :: 42 :: 29 :: 46 :: 16 :: 63 :: rb_code_1
theorem rd_code_0 : code.data.toList.drop 0 = rb_code_0 := by decide +kernel
theorem rd_code_1 : code.data.toList.drop 32 = rb_code_1 := dst 32 rd_code_0 rfl
theorem rd_code_2 : code.data.toList.drop 64 = rb_code_2 := dst 32 rd_code_1 rfl
theorem rd_code_3 : code.data.toList.drop 96 = rb_code_3 := dst 32 rd_code_2 rfl
theorem rd_code_4 : code.data.toList.drop 128 = rb_code_4 := dst 32 rd_code_3 rfl
theorem rd_code_5 : code.data.toList.drop 160 = rb_code_5 := dst 32 rd_code_4 rfl
theorem rd_code_6 : code.data.toList.drop 192 = rb_code_6 := dst 32 rd_code_5 rfl
theorem rd_code_7 : code.data.toList.drop 224 = rb_code_7 := dst 32 rd_code_6 rfl
theorem rd_code_8 : code.data.toList.drop 256 = rb_code_8 := dst 32 rd_code_7 rfl
theorem rd_code_9 : code.data.toList.drop 288 = rb_code_9 := dst 32 rd_code_8 rfl
theorem rd_code_10 : code.data.toList.drop 320 = rb_code_10 := dst 32 rd_code_9 rfl
theorem rd_code_11 : code.data.toList.drop 352 = rb_code_11 := dst 32 rd_code_10 rfl
theorem rd_code_12 : code.data.toList.drop 384 = rb_code_12 := dst 32 rd_code_11 rfl
theorem rd_code_13 : code.data.toList.drop 416 = rb_code_13 := dst 32 rd_code_12 rfl
theorem rd_code_14 : code.data.toList.drop 448 = rb_code_14 := dst 32 rd_code_13 rfl
theorem rd_code_15 : code.data.toList.drop 480 = rb_code_15 := dst 32 rd_code_14 rfl
theorem rd_code_16 : code.data.toList.drop 512 = rb_code_16 := dst 32 rd_code_15 rfl
theorem rd_code_17 : code.data.toList.drop 544 = rb_code_17 := dst 32 rd_code_16 rfl
theorem rd_code_18 : code.data.toList.drop 576 = rb_code_18 := dst 32 rd_code_17 rfl
theorem rd_code_19 : code.data.toList.drop 608 = rb_code_19 := dst 32 rd_code_18 rfl
theorem rd_code_20 : code.data.toList.drop 640 = rb_code_20 := dst 32 rd_code_19 rfl
theorem rd_code_21 : code.data.toList.drop 672 = rb_code_21 := dst 32 rd_code_20 rfl
theorem rd_code_22 : code.data.toList.drop 704 = rb_code_22 := dst 32 rd_code_21 rfl
theorem rd_code_23 : code.data.toList.drop 736 = rb_code_23 := dst 32 rd_code_22 rfl
theorem rd_code_24 : code.data.toList.drop 768 = rb_code_24 := dst 32 rd_code_23 rfl
theorem rd_code_25 : code.data.toList.drop 800 = rb_code_25 := dst 32 rd_code_24 rfl
theorem rd_code_26 : code.data.toList.drop 832 = rb_code_26 := dst 32 rd_code_25 rfl
theorem rd_code_27 : code.data.toList.drop 864 = rb_code_27 := dst 32 rd_code_26 rfl
theorem rd_code_28 : code.data.toList.drop 896 = rb_code_28 := dst 32 rd_code_27 rfl
theorem rd_code_29 : code.data.toList.drop 928 = rb_code_29 := dst 32 rd_code_28 rfl
theorem rd_code_30 : code.data.toList.drop 960 = rb_code_30 := dst 32 rd_code_29 rfl
theorem rd_code_31 : code.data.toList.drop 992 = rb_code_31 := dst 32 rd_code_30 rfl
theorem rd_code_32 : code.data.toList.drop 1024 = rb_code_32 := dst 32 rd_code_31 rfl
theorem rd_code_33 : code.data.toList.drop 1056 = rb_code_33 := dst 32 rd_code_32 rfl
theorem rd_code_34 : code.data.toList.drop 1088 = rb_code_34 := dst 32 rd_code_33 rfl
theorem rd_code_35 : code.data.toList.drop 1120 = rb_code_35 := dst 32 rd_code_34 rfl
theorem rd_code_36 : code.data.toList.drop 1152 = rb_code_36 := dst 32 rd_code_35 rfl
theorem rd_code_37 : code.data.toList.drop 1184 = rb_code_37 := dst 32 rd_code_36 rfl
theorem rd_code_38 : code.data.toList.drop 1216 = rb_code_38 := dst 32 rd_code_37 rfl
theorem rd_code_39 : code.data.toList.drop 1248 = rb_code_39 := dst 32 rd_code_38 rfl
theorem rd_code_40 : code.data.toList.drop 1280 = rb_code_40 := dst 32 rd_code_39 rfl
theorem rd_code_41 : code.data.toList.drop 1312 = rb_code_41 := dst 32 rd_code_40 rfl
theorem rd_code_42 : code.data.toList.drop 1344 = rb_code_42 := dst 32 rd_code_41 rfl
theorem rd_code_43 : code.data.toList.drop 1376 = rb_code_43 := dst 32 rd_code_42 rfl
theorem rd_code_44 : code.data.toList.drop 1408 = rb_code_44 := dst 32 rd_code_43 rfl
theorem rd_code_45 : code.data.toList.drop 1440 = rb_code_45 := dst 32 rd_code_44 rfl
theorem rd_code_46 : code.data.toList.drop 1472 = rb_code_46 := dst 32 rd_code_45 rfl
theorem rd_code_47 : code.data.toList.drop 1504 = rb_code_47 := dst 32 rd_code_46 rfl
theorem rd_code_48 : code.data.toList.drop 1536 = rb_code_48 := dst 32 rd_code_47 rfl
