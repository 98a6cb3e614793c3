def lkT (sm : Nat → Nat → Int32) (tm : Nat → Nat → Int64) (th : Int32) (s : Int64) (x : Nat) : Int64 := if J_X12_isHands sm tm (Int32.ofNat x) = 0 then 0 else s * (J_X12_sundayOf sm tm th (Int32.ofNat x)).toInt64
theorem lk_n {sm : Nat → Nat → Int32} {tm : Nat → Nat → Int64} {p0 p1 v4 v49 v57 y121 y125 : Int32} {g5 g50 g51 g58 g94 : Nat → Int64} {h : Nat} (hh : h < 50) : ∀ (n j : Nat) (g : Nat → Int64), j + n = 50 → ∃ G : Nat → Int64, LTs (Sum.inl default) (B_X12_layLikely_102_6 sm tm p0 p1 v4 g5 v49 g50 g51 v57 g58 (Int32.ofNat h) g94 y121 y125) (n + 1) (Int32.ofNat j, g) = Sum.inl (Int32.ofNat (h + 1), G) ∧ ∀ x, x < 50 → G x = g x + (if j ≤ x then lkT sm tm y125 (g50 h) x else 0)
  | 0, j, g, e0 => by
    have e : j = 50 := by omega
    subst e
    have e2 : B_X12_layLikely_102_6 sm tm p0 p1 v4 g5 v49 g50 g51 v57 g58 (Int32.ofNat h) g94 y121 y125 (Int32.ofNat 50, g) = Sum.inr (Sum.inl (Int32.ofNat h + 1, g)) := rfl
    refine ⟨g, by rw [LT_en e2, ofn_s (by omega)], fun x hx => ?_⟩
    rw [if_neg (by omega), Int64.add_zero]
  | n + 1, j, g, e0 => by
    have cj : ¬ (50 : Int32) ≤ Int32.ofNat j := fun q => by have := f_le (by decide : (50 : Int32).toInt = 50) (ofn_t (k := j) (by omega)) q; omega
    have ej : (Int32.ofNat j).toNatClampNeg = j := ofn_c (by omega)
    have eh : (Int32.ofNat h).toNatClampNeg = h := ofn_c (by omega)
    have e2 : B_X12_layLikely_102_6 sm tm p0 p1 v4 g5 v49 g50 g51 v57 g58 (Int32.ofNat h) g94 y121 y125 (Int32.ofNat j, g) = Sum.inl (Int32.ofNat (j + 1), vp_updL g j (g j + lkT sm tm y125 (g50 h) j)) := by
      unfold lkT
      by_cases c : J_X12_isHands sm tm (Int32.ofNat j) = 0
      · have q : B_X12_layLikely_102_6 sm tm p0 p1 v4 g5 v49 g50 g51 v57 g58 (Int32.ofNat h) g94 y121 y125 (Int32.ofNat j, g) = Sum.inl (Int32.ofNat j + 1, vp_updL g (Int32.ofNat j).toNatClampNeg (g (Int32.ofNat j).toNatClampNeg + 0)) := by
          unfold B_X12_layLikely_102_6
          try dsimp only [LetF]
          exact (if_neg cj).trans (if_pos c)
        rw [q, if_pos c, ej, ofn_s (by omega)]
      · have q : B_X12_layLikely_102_6 sm tm p0 p1 v4 g5 v49 g50 g51 v57 g58 (Int32.ofNat h) g94 y121 y125 (Int32.ofNat j, g) = Sum.inl (Int32.ofNat j + 1, vp_updL g (Int32.ofNat j).toNatClampNeg (g (Int32.ofNat j).toNatClampNeg + g50 (Int32.ofNat h).toNatClampNeg * (J_X12_sundayOf sm tm y125 (Int32.ofNat j)).toInt64)) := by
          unfold B_X12_layLikely_102_6
          try dsimp only [LetF]
          exact (if_neg cj).trans (if_neg c)
        rw [q, if_neg c, ej, eh, ofn_s (by omega)]
    obtain ⟨G, h1, h2⟩ := lk_n (sm := sm) (tm := tm) (p0 := p0) (p1 := p1) (v4 := v4) (v49 := v49) (v57 := v57) (y121 := y121) (y125 := y125) (g5 := g5) (g50 := g50) (g51 := g51) (g58 := g58) (g94 := g94) hh n (j + 1) (vp_updL g j (g j + lkT sm tm y125 (g50 h) j)) (by omega)
    refine ⟨G, by rw [LT_st e2, h1], fun x hx => ?_⟩
    rw [h2 x hx]
    by_cases q : x = j
    · subst q
      rw [updL_s, if_neg (by omega), if_pos (Nat.le_refl x), Int64.add_zero]
    · rw [updL_n q]
      by_cases q2 : j ≤ x
      · rw [if_pos q2, if_pos (by omega)]
      · rw [if_neg q2, if_neg (by omega)]
