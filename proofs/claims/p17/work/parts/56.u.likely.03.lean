theorem lk_0 {sm : Nat → Nat → Int32} {tm : Nat → Nat → Int64} {p0 p1 v4 v49 : Int32} {g5 g50 g51 : Nat → Int64} : ∀ (n j : Nat) (g : Nat → Int64), j + n = 50 → (∀ x, x < j → g x = 0) → ∃ G G2 : Nat → Int64, LTs (Sum.inl default) (B_X12_layLikely_39_3 sm tm p0 p1 v4 g5 v49 g50 g51) (n + 1) (Int32.ofNat j, g) = Sum.inl (v49 + 1, G2, G) ∧ ∀ x, x < 50 → G2 x = SML (lkH sm tm p0 v49 g50 x) 50 0
  | 0, j, g, e0, hz => by
    have e : j = 50 := by omega
    subst e
    obtain ⟨G, G2, h1, h2, h3⟩ := lk_h (sm := sm) (tm := tm) (p0 := p0) (p1 := p1) (v4 := v4) (v49 := v49) (v57 := Int32.ofNat 50) (g5 := g5) (g50 := g50) (g51 := g51) (g58 := g) 50 0 g rfl
    have e1 : ∀ v : Int32, 50 ≤ v → B_X12_layLikely_39_3 sm tm p0 p1 v4 g5 v49 g50 g51 (v, g) = LTs (Sum.inl default) (B_X12_layLikely_63_4 sm tm p0 p1 v4 g5 v49 g50 g51 v g) 51 ((0 : Int32), g) := fun v hv => if_pos hv
    have e2 : B_X12_layLikely_39_3 sm tm p0 p1 v4 g5 v49 g50 g51 (Int32.ofNat 50, g) = Sum.inr (Sum.inl (v49 + 1, G2, G)) := (e1 _ (by decide)).trans h1
    exact ⟨G, G2, LT_en e2, fun x hx => by rw [h3 x hx, h2 x hx, hz x hx, Int64.zero_add]⟩
  | n + 1, j, g, e0, hz => by
    have cj : ¬ (50 : Int32) ≤ Int32.ofNat j := fun q => by have := f_le (by decide : (50 : Int32).toInt = 50) (ofn_t (k := j) (by omega)) q; omega
    have ej : (Int32.ofNat j).toNatClampNeg = j := ofn_c (by omega)
    have e2 : B_X12_layLikely_39_3 sm tm p0 p1 v4 g5 v49 g50 g51 (Int32.ofNat j, g) = Sum.inl (Int32.ofNat j + 1, vp_updL g (Int32.ofNat j).toNatClampNeg 0) := by
      unfold B_X12_layLikely_39_3
      try dsimp only [LetF]
      exact if_neg cj
    rw [ej, ofn_s (by omega)] at e2
    obtain ⟨G, G2, h1, h2⟩ := lk_0 (sm := sm) (tm := tm) (p0 := p0) (p1 := p1) (v4 := v4) (v49 := v49) (g5 := g5) (g50 := g50) (g51 := g51) n (j + 1) (vp_updL g j 0) (by omega) (fun x hx => by
      by_cases q : x = j
      · rw [q, updL_s]
      · rw [updL_n q]; exact hz x (by omega))
    exact ⟨G, G2, by rw [LT_st e2, h1], h2⟩
