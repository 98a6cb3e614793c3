/-! make and the start: what is planned -/
theorem make_pn {sbp spl sx shr shc st sd sh ssu sk1 sk2 sm : Nat → Nat → Int32} {tm : Nat → Nat → Int64} {tbp tpl : Nat → Nat → Int64} {t : Int32 × (Nat → Int32) × Int32 × Int32 × (Nat → Int32) × (Nat → Int32) × (Nat → Int32) × (Nat → Int32) × Int32 × Int32 × Int32 × Int32 × Int32 × Int32 × Int32 × (Nat → Int32) × Int32 × Int32 × Int32 × Int32 × Int32 × Int32 × (Nat → Int32) × Int32 × Int32} {t2 : Int32 × (Nat → Int32) × Int32 × Int32 × Int32 × Int32 × Int32 × Int32 × Int32 × (Nat → Int32) × (Nat → Int32) × (Nat → Int32) × Int32 × Int32} (h1 : t = J_X11_make sx shr shc st sd sh ssu) (h2 : t2 = J_X12_make sm tm) (hn : (sm 0 3).toInt = (st 0 1).toInt) (hb : 0 ≤ (st 0 1).toInt ∧ (st 0 1).toInt ≤ 64) (htx : TX (st 1) (sm 3) (st 0 1)) (hu : U0 (shr 1)) (P : PLN (sx 0 15) (spl 0 0) (tpl 1) (spl 2) (sh 0 0) (sh 0 1) (sh 0 10) (sm 2)) (Q : BNP (sx 0 16) (sbp 0 0) (tbp 1) (sh 0 0) (sm 2)) : PLN t.2.2.2.2.2.2.2.2.2.2.2.2.2.2.2.2.2.2.2.2.2.2.2.1 (spl 0 0) (tpl 1) (spl 2) t.2.2.1 t.2.2.2.1 t.2.2.2.2.2.2.2.2.2.2.2.2.1 t2.2.2.2.2.2.2.2.2.2.1 ∧ BNP t.2.2.2.2.2.2.2.2.2.2.2.2.2.2.2.2.2.2.2.2.2.2.2.2 (sbp 0 0) (tbp 1) t.2.2.1 t2.2.2.2.2.2.2.2.2.2.1 := by
  have en : sm 0 3 = st 0 1 := Int32.toInt_inj.mp hn
  have ha := (house_alike (sr := (lS [(lI []), (shr 1)])) (sc := shc) (st := (lS [(lI [0, (st 0 1)]), (st 1)])) (sh := (lS [(lI [(sd 0 0), (sd 0 1), 0, 0, 0, 0, (sd 0 6), (sd 0 7), (sd 0 8), (sd 0 9), (sd 0 10), (sd 0 11), (sd 0 12)]), (sd 1), (sd 2), (sd 3), (sd 4), (sd 5)])) (sm := sm) (tm := tm) (n := st 0 1) rfl en htx hb.1 hb.2 hu).1
  obtain ⟨y, hy⟩ : ∃ z, (J_X5_read (lS [(lI []), (shr 1)]) shc (lS [(lI [0, (st 0 1)]), (st 1)]) (lS [(lI [(sd 0 0), (sd 0 1), 0, 0, 0, 0, (sd 0 6), (sd 0 7), (sd 0 8), (sd 0 9), (sd 0 10), (sd 0 11), (sd 0 12)]), (sd 1), (sd 2), (sd 3), (sd 4), (sd 5)])) = z := ⟨_, rfl⟩
  obtain ⟨y2, hy2⟩ : ∃ z, J_X12_readHouse sm tm = z := ⟨_, rfl⟩
  rw [hy, hy2] at ha
  by_cases q : y.1 = -9
  · rw [h1, mk_c hy q]
    exact ⟨fun z => absurd rfl z, fun z => absurd rfl z⟩
  · have q2 : ¬ y2.1 = -9 := fun z => q (ha.trans z)
    rw [h1, h2, mk_cn hy q, mk_rn hy2 q2]
    exact ⟨P, Q⟩
theorem pn_start {f w0 s0 s1 s10 : Int32} {C : Nat → Int64} {F V : Nat → Int32} (h : f = 0) : PLN f w0 C F s0 s1 s10 V := fun z => absurd h z
theorem bn_start {x w0 s0 : Int32} {C : Nat → Int64} {V : Nat → Int32} (h : x = -9) : BNP x w0 C s0 V := fun z => absurd h z
