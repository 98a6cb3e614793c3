def thR (sm : Nat → Nat → Int32) (tm : Nat → Nat → Int64) (r w : Int32) (x : Nat) : Int32 := J_X12_after sm tm w (Int32.ofNat x) (J_X12_ruleAct sm tm r w (Int32.ofNat x))
def mnT (sm : Nat → Nat → Int32) (tm : Nat → Nat → Int64) (r w c : Int32) (V : Nat → Int64) (x : Nat) : Int64 := (J_X12_costOf sm tm w (thR sm tm r w x) c (J_X12_ruleAct sm tm r w (Int32.ofNat x))).toInt64 * J_X12_parts ((sm 2) (0 : Int32).toNatClampNeg - w) + SML (onT sm tm V (thR sm tm r w x)) 50 0
theorem mn_h {sm : Nat → Nat → Int32} {tm : Nat → Nat → Int64} {p0 p1 p2 p3 v15 v64 : Int32} {g16 g65 g66 : Nat → Int64} : ∀ (n h : Nat) (g : Nat → Int64), h + n = 500 → ∃ G G2 : Nat → Int64, LTs (Sum.inl default) (B_X12_layMean_63_3 sm tm p0 p1 p2 p3 v15 g16 v64 g65 g66) (n + 1) (Int32.ofNat h, g) = Sum.inl (v64 + (-1), G2, G) ∧ (∀ x, x < h → G x = g x) ∧ (∀ x, h ≤ x → x < 500 → ¬ J_X12_isHands sm tm (Int32.ofNat x) = 0 → G x = mnT sm tm p0 v64 (if v64 = p1 then p3 else 0) g65 x) ∧ ∀ x, x < 500 → G2 x = G x
  | 0, h, g, e0 => by
    have e : h = 500 := by omega
    subst e
    obtain ⟨G, h1, _, h3⟩ := mn_c (sm := sm) (tm := tm) (p0 := p0) (p1 := p1) (p2 := p2) (p3 := p3) (v15 := v15) (v64 := v64) (v107 := Int32.ofNat 500) (g16 := g16) (g65 := g65) (g66 := g66) (g108 := g) 500 0 g65 rfl
    have e1 : ∀ v : Int32, 500 ≤ v → B_X12_layMean_63_3 sm tm p0 p1 p2 p3 v15 g16 v64 g65 g66 (v, g) = LTs (Sum.inl default) (B_X12_layMean_162_4 sm tm p0 p1 p2 p3 v15 g16 v64 g65 g66 v g) 501 ((0 : Int32), g65) := fun v hv => if_pos hv
    have e2 : B_X12_layMean_63_3 sm tm p0 p1 p2 p3 v15 g16 v64 g65 g66 (Int32.ofNat 500, g) = Sum.inr (Sum.inl (v64 + (-1), G, g)) := (e1 _ (by decide)).trans h1
    exact ⟨g, G, LT_en e2, fun x _ => rfl, fun x q1 q2 => by omega, fun x hx => h3 x (Nat.zero_le x) hx⟩
  | n + 1, h, g, e0 => by
    have ch : ¬ (500 : Int32) ≤ Int32.ofNat h := fun q => by have := f_le (by decide : (500 : Int32).toInt = 500) (ofn_t (k := h) (by omega)) q; omega
    have eh : (Int32.ofNat h).toNatClampNeg = h := ofn_c (by omega)
    by_cases c : J_X12_isHands sm tm (Int32.ofNat h) = 0
    · have e2 : B_X12_layMean_63_3 sm tm p0 p1 p2 p3 v15 g16 v64 g65 g66 (Int32.ofNat h, g) = Sum.inl (Int32.ofNat h + 1, g) := by
        unfold B_X12_layMean_63_3
        try dsimp only [LetF]
        exact (if_neg ch).trans (if_pos c)
      obtain ⟨G, G2, h1, h2, h3, h4⟩ := mn_h (sm := sm) (tm := tm) (p0 := p0) (p1 := p1) (p2 := p2) (p3 := p3) (v15 := v15) (v64 := v64) (g16 := g16) (g65 := g65) (g66 := g66) n (h + 1) g (by omega)
      refine ⟨G, G2, by rw [LT_st e2, ofn_s (by omega), h1], fun x hx => h2 x (by omega), fun x q1 q2 q3 => ?_, h4⟩
      by_cases q : x = h
      · rw [q] at q3; exact absurd c q3
      · exact h3 x (by omega) q2 q3
    · have e2 : B_X12_layMean_63_3 sm tm p0 p1 p2 p3 v15 g16 v64 g65 g66 (Int32.ofNat h, g) = Sum.inl (Int32.ofNat h + 1, vp_updL g h (mnT sm tm p0 v64 (if v64 = p1 then p3 else 0) g65 h)) := by
        have ow : J_X12_onward sm (up2L (up2L tm 6 g65) 7 g) (thR sm tm p0 v64 h) = SML (onT sm tm g65 (thR sm tm p0 v64 h)) 50 0 := onward_v
        unfold mnT
        rw [← ow]
        by_cases q : v64 = p1
        · have z : B_X12_layMean_63_3 sm tm p0 p1 p2 p3 v15 g16 v64 g65 g66 (Int32.ofNat h, g) = Sum.inl (Int32.ofNat h + 1, vp_updL g (Int32.ofNat h).toNatClampNeg ((J_X12_costOf sm tm v64 (thR sm tm p0 v64 h) p3 (J_X12_ruleAct sm tm p0 v64 (Int32.ofNat h))).toInt64 * J_X12_parts ((sm 2) (0 : Int32).toNatClampNeg - v64) + J_X12_onward sm (up2L (up2L tm 6 g65) 7 g) (thR sm tm p0 v64 h))) := by
            unfold B_X12_layMean_63_3
            try dsimp only [LetF]
            exact (if_neg ch).trans ((if_neg c).trans (if_pos q))
          rw [z, eh, if_pos q]
        · have z : B_X12_layMean_63_3 sm tm p0 p1 p2 p3 v15 g16 v64 g65 g66 (Int32.ofNat h, g) = Sum.inl (Int32.ofNat h + 1, vp_updL g (Int32.ofNat h).toNatClampNeg ((J_X12_costOf sm tm v64 (thR sm tm p0 v64 h) 0 (J_X12_ruleAct sm tm p0 v64 (Int32.ofNat h))).toInt64 * J_X12_parts ((sm 2) (0 : Int32).toNatClampNeg - v64) + J_X12_onward sm (up2L (up2L tm 6 g65) 7 g) (thR sm tm p0 v64 h))) := by
            unfold B_X12_layMean_63_3
            try dsimp only [LetF]
            exact (if_neg ch).trans ((if_neg c).trans (if_neg q))
          rw [z, eh, if_neg q]
      obtain ⟨G, G2, h1, h2, h3, h4⟩ := mn_h (sm := sm) (tm := tm) (p0 := p0) (p1 := p1) (p2 := p2) (p3 := p3) (v15 := v15) (v64 := v64) (g16 := g16) (g65 := g65) (g66 := g66) n (h + 1) (vp_updL g h (mnT sm tm p0 v64 (if v64 = p1 then p3 else 0) g65 h)) (by omega)
      refine ⟨G, G2, by rw [LT_st e2, ofn_s (by omega), h1], fun x hx => by rw [h2 x (by omega), updL_n (by omega)], fun x q1 q2 q3 => ?_, h4⟩
      by_cases q : x = h
      · rw [h2 x (by omega), q, updL_s]
      · exact h3 x (by omega) q2 q3
