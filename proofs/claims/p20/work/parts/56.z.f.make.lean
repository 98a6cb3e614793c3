/-! make and the start: the table, the means -/
def shTB (f : Int32) (g t : Nat → Int32) : Nat → Nat → Int32 := lS [(lI [0, 0, 0, 0, 0, 0, 0, 0, 0, 0, 0, 0, f]), (fun _ => 0), (fun _ => 0), g, (fun _ => 0), t]
def TBT (f : Int32) (g t : Nat → Int32) : Prop := TBL (shTB f g t)
theorem tbl_of {sh : Nat → Nat → Int32} (T : TBT (sh 0 12) (sh 3) (sh 5)) : TBL sh := fun k hk b hb => T k hk b hb
theorem tb_of {sh : Nat → Nat → Int32} {g : Nat → Int32} (h : g = J_X4_settle sh) : TBT (sh 0 12) (sh 3) g := fun k hk b hb => by
  subst h
  exact settle_v (sh := sh) hk hb
theorem tb_of2 {sh : Nat → Nat → Int32} {f : Int32} {g3 g : Nat → Int32} (h : g = J_X4_settle sh) (e1 : f = sh 0 12) (e3 : g3 = sh 3) : TBT f g3 g := by
  subst h e1 e3
  exact tb_of rfl
theorem cpt_v {sh so : Nat → Nat → Int32} : TBT (so 0 12) (va_cpy (so 3) (sh 3) ((0 : Int32).toNatClampNeg) ((0 : Int32).toNatClampNeg) ((3 : Int32).toNatClampNeg)) (CPT sh so) := by
  unfold CPT J_X4_copy
  rw [if_pos (by decide), if_pos (by decide), if_pos (by decide), if_pos (by decide), if_pos (by decide)]
  exact tb_of (sh := up2 (up2 (up2 (up2 (up2 sh 0 (upd (upd (upd (upd (upd (upd (upd (upd (upd (sh 0) 0 (so 0 0)) 1 (so 0 1)) 6 (so 0 6)) 7 (so 0 7)) 8 (so 0 8)) 9 (so 0 9)) 10 (so 0 10)) 11 (so 0 11)) 12 (so 0 12))) 1 (va_cpy (so 1) (sh 1) ((0 : Int32).toNatClampNeg) ((0 : Int32).toNatClampNeg) ((5 : Int32).toNatClampNeg))) 2 (va_cpy (so 2) (sh 2) ((0 : Int32).toNatClampNeg) ((0 : Int32).toNatClampNeg) ((5 : Int32).toNatClampNeg))) 3 (va_cpy (so 3) (sh 3) ((0 : Int32).toNatClampNeg) ((0 : Int32).toNatClampNeg) ((3 : Int32).toNatClampNeg))) 4 (va_cpy (so 4) (sh 4) ((0 : Int32).toNatClampNeg) ((0 : Int32).toNatClampNeg) ((3 : Int32).toNatClampNeg))) rfl
theorem make_tb {sx shr shc st sd sh ssu : Nat → Nat → Int32} {t : Int32 × (Nat → Int32) × Int32 × Int32 × (Nat → Int32) × (Nat → Int32) × (Nat → Int32) × (Nat → Int32) × Int32 × Int32 × Int32 × Int32 × Int32 × Int32 × Int32 × (Nat → Int32) × Int32 × Int32 × Int32 × Int32 × Int32 × Int32 × (Nat → Int32)} (h1 : t = J_X11_make sx shr shc st sd sh ssu) (T : TBT (sh 0 12) (sh 3) (sh 5)) (N : HNT (sh 0 1, sh 1, sh 2, sh 3, sh 4, sh 0 6, sh 0 7, sh 0 8, sh 0 9, sh 0 10, sh 0 11, sh 0 12)) : TBT t.2.2.2.2.2.2.2.2.2.2.2.2.2.2.1 t.2.2.2.2.2.2.1 t.2.2.2.2.2.2.2.2.2.2.2.2.2.2.2.1 ∧ HNT (t.2.2.2.1, t.2.2.2.2.1, t.2.2.2.2.2.1, t.2.2.2.2.2.2.1, t.2.2.2.2.2.2.2.1, t.2.2.2.2.2.2.2.2.1, t.2.2.2.2.2.2.2.2.2.1, t.2.2.2.2.2.2.2.2.2.2.1, t.2.2.2.2.2.2.2.2.2.2.2.1, t.2.2.2.2.2.2.2.2.2.2.2.2.1, t.2.2.2.2.2.2.2.2.2.2.2.2.2.1, t.2.2.2.2.2.2.2.2.2.2.2.2.2.2.1) := by
  have hn : HNT (J_X5_read (lS [(lI []), (shr 1)]) shc (lS [(lI [0, (st 0 1)]), (st 1)]) (lS [(lI [(sd 0 0), (sd 0 1), 0, 0, 0, 0, (sd 0 6), (sd 0 7), (sd 0 8), (sd 0 9), (sd 0 10), (sd 0 11), (sd 0 12)]), (sd 1), (sd 2), (sd 3), (sd 4), (sd 5)])).2.2.2.2.2 := hnt_read
  obtain ⟨y, hy⟩ : ∃ z, (J_X5_read (lS [(lI []), (shr 1)]) shc (lS [(lI [0, (st 0 1)]), (st 1)]) (lS [(lI [(sd 0 0), (sd 0 1), 0, 0, 0, 0, (sd 0 6), (sd 0 7), (sd 0 8), (sd 0 9), (sd 0 10), (sd 0 11), (sd 0 12)]), (sd 1), (sd 2), (sd 3), (sd 4), (sd 5)])) = z := ⟨_, rfl⟩
  rw [hy] at hn
  by_cases q : y.1 = -9
  · rw [h1, mk_c hy q]
    exact ⟨cpt_v, hn⟩
  · rw [h1, mk_cn hy q]
    exact ⟨T, N⟩
theorem hn_start {w : Int32} {t : SP} (h : CLR w t) : HNT t := by
  obtain ⟨a0, a1, a2, a3, a4, a5, a6⟩ := h
  unfold HNT
  rw [a6]
  exact ⟨Or.inl (by decide), Or.inl (by decide), Or.inl (by decide), Or.inl (by decide)⟩
