theorem th_v {sm : Nat → Nat → Int32} {tm : Nat → Nat → Int64} {p0 p1 p2 p3 y6 y13 : Int32} {y : (Nat → Int64) × (Nat → Int64)} : ∀ (n x : Nat) (s : Int64), x + n = 50 → (LTs default (B_X12_there_57 sm tm p0 p1 p2 p3 y6 y13 y) (n + 1) (Int32.ofNat x, s)).1 = J_X12_told (s + SML (fun x => if J_X12_all (Int32.ofNat x) = p2 then y.1 x else 0) n x) (J_X12_parts p1) p3
  | 0, x, s, h => by
    have e : x = 50 := by omega
    subst e
    have e2 : B_X12_there_57 sm tm p0 p1 p2 p3 y6 y13 y (Int32.ofNat 50, s) = Sum.inr (J_X12_told s (J_X12_parts p1) p3, y.1, y.2) := rfl
    rw [LT_en e2]
    show J_X12_told s _ _ = J_X12_told (s + 0) _ _
    rw [Int64.add_zero]
  | n + 1, x, s, h => by
    have cx : ¬ (50 : Int32) ≤ Int32.ofNat x := fun q => by have := f_le (by decide : (50 : Int32).toInt = 50) (ofn_t (k := x) (by omega)) q; omega
    have ex : (Int32.ofNat x).toNatClampNeg = x := ofn_c (by omega)
    rw [sml_s]
    by_cases q : J_X12_all (Int32.ofNat x) = p2
    · have e2 : B_X12_there_57 sm tm p0 p1 p2 p3 y6 y13 y (Int32.ofNat x, s) = Sum.inl (Int32.ofNat x + 1, s + y.1 (Int32.ofNat x).toNatClampNeg) := by
        unfold B_X12_there_57
        try dsimp only [LetF]
        exact (if_neg cx).trans (if_pos q)
      rw [ex] at e2
      rw [LT_st e2, ofn_s (by omega), th_v n (x + 1) _ (by omega), if_pos q, Int64.add_assoc]
    · have e2 : B_X12_there_57 sm tm p0 p1 p2 p3 y6 y13 y (Int32.ofNat x, s) = Sum.inl (Int32.ofNat x + 1, s + 0) := by
        unfold B_X12_there_57
        try dsimp only [LetF]
        exact (if_neg cx).trans (if_neg q)
      rw [LT_st e2, ofn_s (by omega), th_v n (x + 1) _ (by omega), if_neg q, Int64.add_zero, Int64.zero_add]
