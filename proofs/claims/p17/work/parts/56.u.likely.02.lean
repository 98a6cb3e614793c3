def lkH (sm : Nat → Nat → Int32) (tm : Nat → Nat → Int64) (r v : Int32) (l : Nat → Int64) (x h : Nat) : Int64 := if lg_cmp (l h) 0 ≤ 0 then 0 else lkT sm tm (J_X12_after sm tm v (Int32.ofNat h) (J_X12_ruleAct sm tm r v (Int32.ofNat h))) (l h) x
theorem lk_h {sm : Nat → Nat → Int32} {tm : Nat → Nat → Int64} {p0 p1 v4 v49 v57 : Int32} {g5 g50 g51 g58 : Nat → Int64} : ∀ (n h : Nat) (g : Nat → Int64), h + n = 50 → ∃ G G2 : Nat → Int64, LTs (Sum.inl default) (B_X12_layLikely_63_4 sm tm p0 p1 v4 g5 v49 g50 g51 v57 g58) (n + 1) (Int32.ofNat h, g) = Sum.inr (Sum.inl (v49 + 1, G2, G)) ∧ (∀ x, x < 50 → G x = g x + SML (lkH sm tm p0 v49 g50 x) n h) ∧ ∀ x, x < 50 → G2 x = G x
  | 0, h, g, e0 => by
    have e : h = 50 := by omega
    subst e
    obtain ⟨G, h1, _, h3⟩ := lk_c (sm := sm) (tm := tm) (p0 := p0) (p1 := p1) (v4 := v4) (v49 := v49) (v57 := v57) (v93 := Int32.ofNat 50) (g5 := g5) (g50 := g50) (g51 := g51) (g58 := g58) (g94 := g) 50 0 g50 rfl
    have e1 : ∀ v : Int32, 50 ≤ v → B_X12_layLikely_63_4 sm tm p0 p1 v4 g5 v49 g50 g51 v57 g58 (v, g) = LTs (Sum.inl default) (B_X12_layLikely_164_5 sm tm p0 p1 v4 g5 v49 g50 g51 v57 g58 v g) 51 ((0 : Int32), g50) := fun v hv => if_pos hv
    have e2 : B_X12_layLikely_63_4 sm tm p0 p1 v4 g5 v49 g50 g51 v57 g58 (Int32.ofNat 50, g) = Sum.inr (Sum.inr (Sum.inl (v49 + 1, G, g))) := (e1 _ (by decide)).trans h1
    exact ⟨g, G, LT_en e2, fun x _ => (Int64.add_zero _).symm, fun x hx => h3 x (Nat.zero_le x) hx⟩
  | n + 1, h, g, e0 => by
    have ch : ¬ (50 : Int32) ≤ Int32.ofNat h := fun q => by have := f_le (by decide : (50 : Int32).toInt = 50) (ofn_t (k := h) (by omega)) q; omega
    have eh : (Int32.ofNat h).toNatClampNeg = h := ofn_c (by omega)
    by_cases c : lg_cmp (g50 (Int32.ofNat h).toNatClampNeg) 0 ≤ 0
    · have e2 : B_X12_layLikely_63_4 sm tm p0 p1 v4 g5 v49 g50 g51 v57 g58 (Int32.ofNat h, g) = Sum.inl (Int32.ofNat h + 1, g) := by
        unfold B_X12_layLikely_63_4
        try dsimp only [LetF]
        exact (if_neg ch).trans (if_pos c)
      obtain ⟨G, G2, h1, h2, h3⟩ := lk_h (sm := sm) (tm := tm) (p0 := p0) (p1 := p1) (v4 := v4) (v49 := v49) (v57 := v57) (g5 := g5) (g50 := g50) (g51 := g51) (g58 := g58) n (h + 1) g (by omega)
      refine ⟨G, G2, by rw [LT_st e2, ofn_s (by omega), h1], fun x hx => ?_, h3⟩
      rw [eh] at c
      have z : lkH sm tm p0 v49 g50 x h = 0 := if_pos c
      rw [h2 x hx, sml_s, z, Int64.zero_add]
    · obtain ⟨Y, y1, y2⟩ := lk_n (sm := sm) (tm := tm) (p0 := p0) (p1 := p1) (v4 := v4) (v49 := v49) (v57 := v57) (y121 := J_X12_ruleAct sm tm p0 v49 (Int32.ofNat h)) (y125 := J_X12_after sm tm v49 (Int32.ofNat h) (J_X12_ruleAct sm tm p0 v49 (Int32.ofNat h))) (g5 := g5) (g50 := g50) (g51 := g51) (g58 := g58) (g94 := g) (h := h) (by omega) 50 0 g rfl
      have e2 : B_X12_layLikely_63_4 sm tm p0 p1 v4 g5 v49 g50 g51 v57 g58 (Int32.ofNat h, g) = Sum.inl (Int32.ofNat (h + 1), Y) := by
        unfold B_X12_layLikely_63_4
        try dsimp only [LetF]
        exact (if_neg ch).trans ((if_neg c).trans y1)
      obtain ⟨G, G2, h1, h2, h3⟩ := lk_h (sm := sm) (tm := tm) (p0 := p0) (p1 := p1) (v4 := v4) (v49 := v49) (v57 := v57) (g5 := g5) (g50 := g50) (g51 := g51) (g58 := g58) n (h + 1) Y (by omega)
      refine ⟨G, G2, by rw [LT_st e2, h1], fun x hx => ?_, h3⟩
      rw [eh] at c
      have z : lkH sm tm p0 v49 g50 x h = lkT sm tm (J_X12_after sm tm v49 (Int32.ofNat h) (J_X12_ruleAct sm tm p0 v49 (Int32.ofNat h))) (g50 h) x := if_neg c
      rw [h2 x hx, y2 x hx, if_pos (Nat.zero_le x), sml_s, z, Int64.add_assoc]
