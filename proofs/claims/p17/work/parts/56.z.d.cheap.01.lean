theorem val_tm {sm : Nat → Nat → Int32} {t1 t2 : Nat → Nat → Int64} {r : Int32} {W : Nat} : ∀ (n : Nat) (c : Int32) (h : Nat), VAL sm t1 r W n c h = VAL sm t2 r W n c h
  | 0, _, h => by
    show (J_X12_bonus sm t1 (Int32.ofNat h)).toInt64 = (J_X12_bonus sm t2 (Int32.ofNat h)).toInt64
    rw [bon_tm (t2 := t2)]
  | n + 1, c, h => by
    show mnT sm t1 r (Int32.ofNat (W - (n + 1))) c (VAL sm t1 r W n 0) h = mnT sm t2 r (Int32.ofNat (W - (n + 1))) c (VAL sm t2 r W n 0) h
    rw [show VAL sm t1 r W n 0 = VAL sm t2 r W n 0 from funext (fun y => val_tm n 0 y), mnT_tm (t2 := t2)]
/-! cheapest -/
theorem ch_1 {sx sh sco : Nat → Nat → Int32} {tco : Nat → Nat → Int64} {v found : Int32} {V least x20 x21 x22 x23 : Int64} {g24 g25 : Nat → Int64} (h3 : ¬ 3 ≤ v) (hV : ∀ t : Nat → Nat → Int64, (J_X11_goToTheEnd sx (SHX sh) SC0 t v 0 0 0).2.2.2.1 = V) : ∃ y : Int64 × Int64 × Int64 × Int64 × (Nat → Int64) × (Nat → Int64), B_X11_cheapest_7 sx sh sco tco (v, least, found, x20, x21, x22, x23, g24, g25) = Sum.inl (v + 1, (if v = 0 then V else if 0 ≤ lg_cmp V least then least else V), (if v = 0 then v else if 0 ≤ lg_cmp V least then found else v), y.1, y.2.1, y.2.2.1, y.2.2.2.1, y.2.2.2.2.1, y.2.2.2.2.2) := by
  have e := hV (lT [(lJ [0, 0, x20, x21, x22, x23]), g24, g25])
  unfold B_X11_cheapest_7
  dsimp only [LetF]
  generalize J_X11_goToTheEnd sx (SHX sh) SC0 (lT [(lJ [0, 0, x20, x21, x22, x23]), g24, g25]) v 0 0 0 = Y at e ⊢
  subst e
  refine ⟨(Y.2.2.1, Y.2.2.2.1, Y.2.2.2.2.1, Y.2.2.2.2.2, Y.1, Y.2.1), ?_⟩
  rw [if_neg h3]
  by_cases q : v = 0
  · rw [if_pos q, if_pos q, if_pos q]
  · rw [if_neg q, if_neg q, if_neg q]
    by_cases z : 0 ≤ lg_cmp Y.2.2.2.1 least
    · rw [if_pos z, if_pos z, if_pos z]
    · rw [if_neg z, if_neg z, if_neg z]
