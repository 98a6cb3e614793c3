/-! how likely hands are there, by the reference -/
theorem lk_c {sm : Nat → Nat → Int32} {tm : Nat → Nat → Int64} {p0 p1 v4 v49 v57 v93 : Int32} {g5 g50 g51 g58 g94 : Nat → Int64} : ∀ (n j : Nat) (g : Nat → Int64), j + n = 50 → ∃ G : Nat → Int64, LTs (Sum.inl default) (B_X12_layLikely_164_5 sm tm p0 p1 v4 g5 v49 g50 g51 v57 g58 v93 g94) (n + 1) (Int32.ofNat j, g) = Sum.inr (Sum.inr (Sum.inl (v49 + 1, G, g94))) ∧ (∀ x, x < j → G x = g x) ∧ ∀ x, j ≤ x → x < 50 → G x = g94 x
  | 0, j, g, h => by
    have e : j = 50 := by omega
    subst e
    have e2 : B_X12_layLikely_164_5 sm tm p0 p1 v4 g5 v49 g50 g51 v57 g58 v93 g94 (Int32.ofNat 50, g) = Sum.inr (Sum.inr (Sum.inr (Sum.inl (v49 + 1, g, g94)))) := rfl
    exact ⟨g, LT_en e2, fun x _ => rfl, fun x h1 h2 => by omega⟩
  | n + 1, j, g, h => by
    have cj : ¬ (50 : Int32) ≤ Int32.ofNat j := fun q => by have := f_le (by decide : (50 : Int32).toInt = 50) (ofn_t (k := j) (by omega)) q; omega
    have ej : (Int32.ofNat j).toNatClampNeg = j := ofn_c (by omega)
    have e2 : B_X12_layLikely_164_5 sm tm p0 p1 v4 g5 v49 g50 g51 v57 g58 v93 g94 (Int32.ofNat j, g) = Sum.inl (Int32.ofNat j + 1, vp_updL g (Int32.ofNat j).toNatClampNeg (g94 (Int32.ofNat j).toNatClampNeg)) := by
      unfold B_X12_layLikely_164_5
      try dsimp only [LetF]
      exact if_neg cj
    rw [ej, ofn_s (by omega)] at e2
    obtain ⟨G, h1, h2, h3⟩ := lk_c (sm := sm) (tm := tm) (p0 := p0) (p1 := p1) (v4 := v4) (v49 := v49) (v57 := v57) (v93 := v93) (g5 := g5) (g50 := g50) (g51 := g51) (g58 := g58) (g94 := g94) n (j + 1) (vp_updL g j (g94 j)) (by omega)
    refine ⟨G, by rw [LT_st e2, h1], fun x hx => ?_, fun x h4 h5 => ?_⟩
    · rw [h2 x (by omega), updL_n (by omega)]
    · by_cases q : x = j
      · rw [h2 x (by omega), q, updL_s]
      · exact h3 x (by omega) h5
