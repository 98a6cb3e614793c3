/-! what is written is alike; faults are alike -/
theorem zb_b (x : Int32) : x.toInt8.toInt32 &&& 255 = x &&& 255 := by
  apply Int32.toBitVec_inj.mp
  rw [Int32.toBitVec_and, Int32.toBitVec_and, Int8.toBitVec_toInt32, Int32.toBitVec_toInt8]
  apply BitVec.eq_of_getLsbD_eq
  intro i hi
  rw [BitVec.getLsbD_and, BitVec.getLsbD_and]
  have hm : ∀ i < 32, 8 ≤ i → (255 : Int32).toBitVec.getLsbD i = false := by decide
  rcases Nat.lt_or_ge i 8 with z | z
  · rw [BitVec.getLsbD_signExtend, BitVec.getLsbD_signExtend, if_pos z, if_pos hi]
    simp only [z, hi, decide_true, Bool.true_and]
  · rw [hm i hi z]; simp
theorem sh_d1 : ∀ k : Fin 8, ((8 : Int32) * Int32.ofNat k.val).toInt64.toUInt64 &&& Int64.toUInt64 63 = UInt64.ofNat (8 * k.val) := by decide +kernel
theorem sh_d2 : ∀ k : Fin 8, ((((8 : Int32) * Int32.ofNat k.val).toInt64 &&& 63).toBitVec.smod 64).toNat = 8 * k.val := by decide +kernel
theorem by_alike (v : Int64) {k : Nat} (hk : k < 8) : byC v k &&& 255 = byR v k := by
  unfold byC byR
  rw [pk_vb, zb_b, show ((8 : Int32) * Int32.ofNat k).toInt64.toUInt64 &&& Int64.toUInt64 63 = UInt64.ofNat (8 * k) from sh_d1 ⟨k, hk⟩]
  have e1 : (v.toUInt64 >>> UInt64.ofNat (8 * k)).toInt64.toBitVec = v.toBitVec >>> (8 * k) := by
    apply BitVec.eq_of_toNat_eq
    show (v.toUInt64 >>> UInt64.ofNat (8 * k)).toNat = _
    have h1 : (UInt64.ofNat (8 * k)).toNat = 8 * k := by
      show (BitVec.ofNat 64 (8 * k)).toNat = 8 * k
      rw [BitVec.toNat_ofNat, Nat.mod_eq_of_lt (by omega)]
    rw [UInt64.toNat_shiftRight, h1, Nat.mod_eq_of_lt (by omega), BitVec.toNat_ushiftRight]
    rfl
  have e2 : (v >>> (((8 : Int32) * Int32.ofNat k).toInt64 &&& 63)).toBitVec = v.toBitVec.sshiftRight (8 * k) := by
    rw [Int64.toBitVec_shiftRight, BitVec.sshiftRight_eq', show ((((8 : Int32) * Int32.ofNat k).toInt64 &&& 63).toBitVec.smod 64).toNat = 8 * k from sh_d2 ⟨k, hk⟩]
  apply Int32.toBitVec_inj.mp
  rw [Int32.toBitVec_and, Int64.toBitVec_toInt32, Int64.toBitVec_toInt32, Int64.toBitVec_and, e1, e2]
  apply BitVec.eq_of_getLsbD_eq
  intro i hi
  rw [BitVec.getLsbD_and, BitVec.getLsbD_signExtend, BitVec.getLsbD_signExtend, if_pos (show i < 64 by omega), if_pos (show i < 64 by omega), BitVec.getLsbD_and, BitVec.getLsbD_ushiftRight, BitVec.getLsbD_sshiftRight]
  have m1 : ∀ i < 32, (255 : Int32).toBitVec.getLsbD i = (255 : Int64).toBitVec.getLsbD i := by decide
  have m2 : ∀ i < 32, 8 ≤ i → (255 : Int64).toBitVec.getLsbD i = false := by decide
  rw [m1 i hi]
  rcases Nat.lt_or_ge i 8 with z | z
  · have q : 8 * k + i < 64 := by omega
    have q2 : ¬ 64 ≤ i := by omega
    simp [q, q2, hi]
  · rw [m2 i hi z]; simp
theorem tx_wr {v : Int64} : ∀ (k : Nat), k ≤ 8 → ∀ (f g : Nat → Int32) (l : Nat), (∀ j : Nat, j < l → f j &&& 255 = g j) → ∀ j : Nat, j < l + k → wrB (byC v) k f l j &&& 255 = wrB (byR v) k g l j := by
  intro k
  induction k with
  | zero => intro hk f g l h j hj; exact h j hj
  | succ k ih =>
    intro hk f g l h j hj
    refine ih (by omega) (upd f l (byC v k)) (upd g l (byR v k)) (l + 1) (fun i hi => ?_) j (by omega)
    by_cases e : i = l
    · rw [e, pk_us, pk_us]; exact by_alike v (by omega)
    · rw [pk_un e, pk_un e]; exact h i (by omega)
theorem write_alike {sx st sm : Nat → Nat → Int32} {tm : Nat → Nat → Int64} {p0 : Int32} {p1 : Int64} (hn : (sm 0 3).toInt = (st 0 1).toInt) (hb : 0 ≤ (st 0 1).toInt ∧ (st 0 1).toInt ≤ 64) (h : TX (st 1) (sm 3) (st 0 1)) : TX (J_X11_write sx st p0 p1).2.1 (J_X12_write sm tm p0 p1).2.1 (J_X11_write sx st p0 p1).2.2 := by
  have en : sm 0 3 = st 0 1 := Int32.toInt_inj.mp hn
  have r := i_rng p0
  by_cases h1 : p0 < 1
  · have a1 := f_lt rfl (by decide : (1 : Int32).toInt = 1) h1
    have e1 : J_X11_write sx st p0 p1 = (-2, st 1, st 0 1) := if_pos h1
    have e2 : J_X12_write sm tm p0 p1 = (-2, sm 3, sm 0 3) := if_pos (Or.inl a1)
    rw [e1, e2]; exact h
  · have a1 := f_nlt rfl (by decide : (1 : Int32).toInt = 1) h1
    by_cases h2 : p0 ≤ 8
    · have a2 := f_le rfl (by decide : (8 : Int32).toInt = 8) h2
      have es : (st 0 1 + p0).toInt = (st 0 1).toInt + p0.toInt := i_add rfl rfl (by omega) (by omega)
      by_cases h3 : 64 < st 0 1 + p0
      · have a3 := f_lt (by decide : (64 : Int32).toInt = 64) es h3
        have er : J_X10_hasRoom (lS [(lI [0, (st 0 1)]), (st 1)]) p0 = 0 := if_pos h3
        have e1 : J_X11_write sx st p0 p1 = (-4, st 1, st 0 1) := ((if_neg h1).trans (if_pos h2)).trans (if_pos er)
        have e2 : J_X12_write sm tm p0 p1 = (-4, sm 3, sm 0 3) := (if_neg (by omega)).trans (if_pos (by omega))
        rw [e1, e2]; exact h
      · have a3 := f_nlt (by decide : (64 : Int32).toInt = 64) es h3
        have er : ¬ J_X10_hasRoom (lS [(lI [0, (st 0 1)]), (st 1)]) p0 = 0 := by
          rw [show J_X10_hasRoom (lS [(lI [0, (st 0 1)]), (st 1)]) p0 = 1 from if_neg h3]; decide
        have e1 : J_X11_write sx st p0 p1 = (st 0 1 + p0, wrB (byC p1) (Int.toNat p0.toInt) (st 1) (Int.toNat (st 0 1).toInt), st 0 1 + p0) := ((if_neg h1).trans (if_pos h2)).trans (if_neg er)
        have e2 : J_X12_write sm tm p0 p1 = (sm 0 3 + p0, wrB (byR p1) (Int.toNat p0.toInt) (sm 3) (Int.toNat (sm 0 3).toInt), sm 0 3 + p0) := (if_neg (by omega)).trans (if_neg (by omega))
        rw [e1, e2, en]
        intro j hj
        have hj2 : (j : Int) < (st 0 1 + p0).toInt := hj
        exact tx_wr (Int.toNat p0.toInt) (by omega) (st 1) (sm 3) (Int.toNat (st 0 1).toInt) (fun i hi => h i (by omega)) j (by omega)
    · have a2 := f_nle rfl (by decide : (8 : Int32).toInt = 8) h2
      have e1 : J_X11_write sx st p0 p1 = (-2, st 1, st 0 1) := (if_neg h1).trans (if_neg h2)
      have e2 : J_X12_write sm tm p0 p1 = (-2, sm 3, sm 0 3) := if_pos (Or.inr (by omega))
      rw [e1, e2]; exact h
theorem tx_0 {f g : Nat → Int32} {n : Int32} (h : n.toInt = 0) : TX f g n := fun j hj => by omega
def bo (x : Int32) : Int32 := if x = 0 then 0 else 1
theorem fault_alike {sx shr shc st sd srr src sm : Nat → Nat → Int32} {tm : Nat → Nat → Int64} {p0 : Int32} (hn : (sm 0 3).toInt = (st 0 1).toInt) (hb : 0 ≤ (st 0 1).toInt ∧ (st 0 1).toInt ≤ 64) (h : TX (st 1) (sm 3) (st 0 1)) (hu : U0 (shr 1)) : (J_X11_fault sx shr shc st sd srr src p0).1 = (J_X12_fault sm tm p0).1 ∧ U0 (J_X11_fault sx shr shc st sd srr src p0).2.2.2.1 := by
  have en : sm 0 3 = st 0 1 := Int32.toInt_inj.mp hn
  have ha := (house_alike (sr := (lS [(lI []), (shr 1)])) (sc := shc) (st := (lS [(lI [0, (st 0 1)]), (st 1)])) (sh := (lS [(lI [(sd 0 0), (sd 0 1), 0, 0, 0, 0, (sd 0 6), (sd 0 7), (sd 0 8), (sd 0 9), (sd 0 10), (sd 0 11), (sd 0 12)]), (sd 1), (sd 2), (sd 3), (sd 4), (sd 5)])) (sm := sm) (tm := tm) (n := st 0 1) rfl en h hb.1 hb.2 hu).1
  have hu2 := u0_read (sr := (lS [(lI []), (shr 1)])) (sc := shc) (st := (lS [(lI [0, (st 0 1)]), (st 1)])) (sh := (lS [(lI [(sd 0 0), (sd 0 1), 0, 0, 0, 0, (sd 0 6), (sd 0 7), (sd 0 8), (sd 0 9), (sd 0 10), (sd 0 11), (sd 0 12)]), (sd 1), (sd 2), (sd 3), (sd 4), (sd 5)])) hu
  have hc := (rule_alike (sr := (lS [(lI [0, 0, (srr 0 2), (srr 0 3)]), (srr 1)])) (sc := src) (st := (lS [(lI [0, (st 0 1)]), (st 1)])) (sm := sm) (tm := tm) (n := st 0 1) rfl en h hb.1 hb.2).1
  dsimp only [J_X11_fault, J_X12_fault, LetF]
  generalize J_X5_read (lS [(lI []), (shr 1)]) shc (lS [(lI [0, (st 0 1)]), (st 1)]) (lS [(lI [(sd 0 0), (sd 0 1), 0, 0, 0, 0, (sd 0 6), (sd 0 7), (sd 0 8), (sd 0 9), (sd 0 10), (sd 0 11), (sd 0 12)]), (sd 1), (sd 2), (sd 3), (sd 4), (sd 5)]) = y at ha hu2 ⊢
  generalize J_X12_readHouse sm tm = y2 at ha ⊢
  generalize J_X8_read (lS [(lI [0, 0, (srr 0 2), (srr 0 3)]), (srr 1)]) src (lS [(lI [0, (st 0 1)]), (st 1)]) = x at hc ⊢
  generalize J_X12_readRule sm tm = x2 at hc ⊢
  by_cases h0 : p0 = 0
  · rw [if_pos h0, if_pos h0]; exact ⟨ha, hu2⟩
  · rw [if_neg h0, if_neg h0]; exact ⟨hc, hu⟩
theorem make_u0 {sx shr shc st sd sh ssu : Nat → Nat → Int32} (hu : U0 (shr 1)) : U0 (J_X11_make sx shr shc st sd sh ssu).2.1 := by
  have hu2 := u0_read (sr := (lS [(lI []), (shr 1)])) (sc := shc) (st := (lS [(lI [0, (st 0 1)]), (st 1)])) (sh := (lS [(lI [(sd 0 0), (sd 0 1), 0, 0, 0, 0, (sd 0 6), (sd 0 7), (sd 0 8), (sd 0 9), (sd 0 10), (sd 0 11), (sd 0 12)]), (sd 1), (sd 2), (sd 3), (sd 4), (sd 5)])) hu
  dsimp only [J_X11_make, LetF]
  generalize J_X5_read (lS [(lI []), (shr 1)]) shc (lS [(lI [0, (st 0 1)]), (st 1)]) (lS [(lI [(sd 0 0), (sd 0 1), 0, 0, 0, 0, (sd 0 6), (sd 0 7), (sd 0 8), (sd 0 9), (sd 0 10), (sd 0 11), (sd 0 12)]), (sd 1), (sd 2), (sd 3), (sd 4), (sd 5)]) = y at hu2 ⊢
  by_cases q : y.1 = -9
  · rw [if_pos q]; exact hu2
  · rw [if_neg q]; exact hu2
theorem write_alike2 {sx st sm : Nat → Nat → Int32} {tm : Nat → Nat → Int64} {r1 r2 m1 m2 p0 q0 : Int32} {p1 q1 : Int64} {f g : Nat → Int32} (h1 : (r1, f, m1) = J_X11_write sx st p0 p1) (h2 : (r2, g, m2) = J_X12_write sm tm q0 q1) (e0 : q0 = p0) (e1 : q1 = p1) (hn : (sm 0 3).toInt = (st 0 1).toInt) (hb : 0 ≤ (st 0 1).toInt ∧ (st 0 1).toInt ≤ 64) (h : TX (st 1) (sm 3) (st 0 1)) : TX f g m1 := by
  subst e0 e1
  have a := write_alike (sx := sx) (tm := tm) (p0 := q0) (p1 := q1) hn hb h
  rw [← h1, ← h2] at a
  exact a
theorem fault_alike2 {sx shr shc st sd srr src sm : Nat → Nat → Int32} {tm : Nat → Nat → Int64} {p0 q0 : Int32} {t : Int32 × Int32 × Int32 × (Nat → Int32) × Int32 × Int32 × (Nat → Int32) × (Nat → Int32) × (Nat → Int32) × (Nat → Int32) × Int32 × Int32 × Int32 × Int32 × Int32 × Int32 × Int32 × Int32 × Int32 × Int32 × (Nat → Int32) × Int32} {t2 : Int32 × (Nat → Int32) × Int32 × Int32 × Int32 × Int32 × Int32 × Int32 × Int32 × Int32 × (Nat → Int32)} (h1 : t = J_X11_fault sx shr shc st sd srr src p0) (h2 : t2 = J_X12_fault sm tm q0) (e0 : q0 = p0) (hn : (sm 0 3).toInt = (st 0 1).toInt) (hb : 0 ≤ (st 0 1).toInt ∧ (st 0 1).toInt ≤ 64) (h : TX (st 1) (sm 3) (st 0 1)) (hu : U0 (shr 1)) : t.1 = t2.1 ∧ U0 t.2.2.2.1 := by
  subst e0
  rw [h1, h2]
  exact fault_alike hn hb h hu
theorem make_u0b {sx shr shc st sd sh ssu : Nat → Nat → Int32} {t : Int32 × (Nat → Int32) × Int32 × Int32 × (Nat → Int32) × (Nat → Int32) × (Nat → Int32) × (Nat → Int32) × Int32 × Int32 × Int32 × Int32 × Int32 × Int32 × Int32 × (Nat → Int32) × Int32 × Int32 × Int32 × Int32 × Int32 × Int32 × (Nat → Int32)} (h1 : t = J_X11_make sx shr shc st sd sh ssu) (hu : U0 (shr 1)) : U0 t.2.1 := by
  rw [h1]; exact make_u0 hu
