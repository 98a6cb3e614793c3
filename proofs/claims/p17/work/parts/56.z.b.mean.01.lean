theorem onward_v {sm : Nat → Nat → Int32} {tm : Nat → Nat → Int64} {th : Int32} : J_X12_onward sm tm th = SML (onT sm tm (tm 6) th) 50 0 := by
  have e : J_X12_onward sm tm th = 0 + SML (onT sm tm (tm 6) th) 50 0 := on_v 50 0 0 rfl
  rw [e, Int64.zero_add]
theorem mn_c {sm : Nat → Nat → Int32} {tm : Nat → Nat → Int64} {p0 p1 p2 p3 v15 v64 v107 : Int32} {g16 g65 g66 g108 : Nat → Int64} : ∀ (n j : Nat) (g : Nat → Int64), j + n = 500 → ∃ G : Nat → Int64, LTs (Sum.inl default) (B_X12_layMean_162_4 sm tm p0 p1 p2 p3 v15 g16 v64 g65 g66 v107 g108) (n + 1) (Int32.ofNat j, g) = Sum.inr (Sum.inl (v64 + (-1), G, g108)) ∧ (∀ x, x < j → G x = g x) ∧ ∀ x, j ≤ x → x < 500 → G x = g108 x
  | 0, j, g, h => by
    have e : j = 500 := by omega
    subst e
    have e2 : B_X12_layMean_162_4 sm tm p0 p1 p2 p3 v15 g16 v64 g65 g66 v107 g108 (Int32.ofNat 500, g) = Sum.inr (Sum.inr (Sum.inl (v64 + (-1), g, g108))) := rfl
    exact ⟨g, LT_en e2, fun x _ => rfl, fun x h1 h2 => by omega⟩
  | n + 1, j, g, h => by
    have cj : ¬ (500 : Int32) ≤ Int32.ofNat j := fun q => by have := f_le (by decide : (500 : Int32).toInt = 500) (ofn_t (k := j) (by omega)) q; omega
    have ej : (Int32.ofNat j).toNatClampNeg = j := ofn_c (by omega)
    have e2 : B_X12_layMean_162_4 sm tm p0 p1 p2 p3 v15 g16 v64 g65 g66 v107 g108 (Int32.ofNat j, g) = Sum.inl (Int32.ofNat j + 1, vp_updL g (Int32.ofNat j).toNatClampNeg (g108 (Int32.ofNat j).toNatClampNeg)) := by
      unfold B_X12_layMean_162_4
      try dsimp only [LetF]
      exact if_neg cj
    rw [ej, ofn_s (by omega)] at e2
    obtain ⟨G, h1, h2, h3⟩ := mn_c (sm := sm) (tm := tm) (p0 := p0) (p1 := p1) (p2 := p2) (p3 := p3) (v15 := v15) (v64 := v64) (v107 := v107) (g16 := g16) (g65 := g65) (g66 := g66) (g108 := g108) n (j + 1) (vp_updL g j (g108 j)) (by omega)
    refine ⟨G, by rw [LT_st e2, h1], fun x hx => ?_, fun x h4 h5 => ?_⟩
    · rw [h2 x (by omega), updL_n (by omega)]
    · by_cases q : x = j
      · rw [h2 x (by omega), q, updL_s]
      · exact h3 x (by omega) h5
