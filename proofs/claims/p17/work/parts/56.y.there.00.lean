/-! going ahead: both sides -/
abbrev SHX (sh : Nat → Nat → Int32) : Nat → Nat → Int32 := lS [(lI [(sh 0 0), (sh 0 1), 0, 0, 0, 0, (sh 0 6), (sh 0 7), (sh 0 8), (sh 0 9), (sh 0 10), (sh 0 11), (sh 0 12)]), (sh 1), (sh 2), (sh 3), (sh 4), (sh 5)]
abbrev SC0 : Nat → Nat → Int32 := lS [(lI []), (fun _ => 0), (fun _ => 0)]
theorem lv_x {sh : Nat → Nat → Int32} {d g : Int32} : J_X4_leaving (SHX sh) d g = J_X4_leaving sh d g := rfl
theorem tbl_x {sh : Nat → Nat → Int32} (T : TBL sh) : TBL (SHX sh) := fun k hk b hb => T k hk b hb
def SCN : Nat → Int64 → Int64
  | 0, s => s
  | n + 1, s => SCN n (s * 625)
theorem scn_v : ∀ (n m : Nat) (s : Int64), s.toInt = ((625 ^ m : Nat) : Int) → m + n ≤ 5 → (SCN n s).toInt = ((625 ^ (m + n) : Nat) : Int)
  | 0, m, s, h, _ => h
  | n + 1, m, s, h, hn => by
    have e : (s * 625).toInt = ((625 ^ (m + 1) : Nat) : Int) := by
      rw [Nat.pow_succ]
      exact l_mulN h (by decide) (by rw [← Nat.pow_succ]; exact Nat.le_trans (p625 (n := m + 1) (by omega)) (by decide))
    rw [show m + (n + 1) = m + 1 + n from by omega]
    exact scn_v n (m + 1) (s * 625) e (by omega)
theorem pts_v {W : Nat} (hW : W ≤ 5) : ∀ (n v : Nat) (s : Int64), v + n = W → LTs default (B_X12_parts_4 (Int32.ofNat W)) (n + 1) (Int32.ofNat v, s) = SCN n s
  | 0, v, s, h => by
    have e : v = W := by omega
    subst e
    have e2 : B_X12_parts_4 (Int32.ofNat v) (Int32.ofNat v, s) = Sum.inr s := by
      unfold B_X12_parts_4
      try dsimp only [LetF]
      exact if_pos (Int32.le_iff_toInt_le.mpr (Int.le_refl _))
    exact LT_en e2
  | n + 1, v, s, h => by
    have cv : ¬ Int32.ofNat W ≤ Int32.ofNat v := fun q => by have := f_le (ofn_t (k := W) (by omega)) (ofn_t (k := v) (by omega)) q; omega
    have e2 : B_X12_parts_4 (Int32.ofNat W) (Int32.ofNat v, s) = Sum.inl (Int32.ofNat v + 1, s * 625) := by
      unfold B_X12_parts_4
      try dsimp only [LetF]
      exact if_neg cv
    rw [LT_st e2, ofn_s (by omega), pts_v hW n (v + 1) (s * 625) (by omega)]
    rfl
