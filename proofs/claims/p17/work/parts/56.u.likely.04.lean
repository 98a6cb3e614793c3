/-- week by week -/
def LKR (sm : Nat → Nat → Int32) (tm : Nat → Nat → Int64) (r : Int32) : Nat → Nat → (Nat → Int64) → (Nat → Int64) → Prop
  | 0, _, l, L => ∀ x, x < 50 → L x = l x
  | n + 1, v, l, L => ∃ l2 : Nat → Int64, (∀ x, x < 50 → l2 x = SML (lkH sm tm r (Int32.ofNat v) l x) 50 0) ∧ LKR sm tm r n (v + 1) l2 L
theorem lk_w {sm : Nat → Nat → Int32} {tm : Nat → Nat → Int64} {p0 v4 : Int32} {g5 : Nat → Int64} {W : Nat} (hW : W ≤ 5) : ∀ (n v f : Nat) (l t : Nat → Int64), v + n = W → n + 1 ≤ f → ∃ L T : Nat → Int64, LTs (Sum.inl default) (B_X12_layLikely_31_2 sm tm p0 (Int32.ofNat W) v4 g5) f (Int32.ofNat v, l, t) = Sum.inr (L, T) ∧ LKR sm tm p0 n v l L
  | 0, v, f, l, t, e0, hf => by
    have e : v = W := by omega
    subst e
    obtain ⟨f2, rfl⟩ : ∃ f2, f = f2 + 1 := ⟨f - 1, by omega⟩
    have e2 : B_X12_layLikely_31_2 sm tm p0 (Int32.ofNat v) v4 g5 (Int32.ofNat v, l, t) = Sum.inr (Sum.inr (l, t)) := by
      unfold B_X12_layLikely_31_2
      try dsimp only [LetF]
      exact if_pos (Int32.le_iff_toInt_le.mpr (Int.le_refl _))
    exact ⟨l, t, LT_en e2, fun x _ => rfl⟩
  | n + 1, v, f, l, t, e0, hf => by
    obtain ⟨f2, rfl⟩ : ∃ f2, f = f2 + 1 := ⟨f - 1, by omega⟩
    have cv : ¬ Int32.ofNat W ≤ Int32.ofNat v := fun q => by have := f_le (ofn_t (k := W) (by omega)) (ofn_t (k := v) (by omega)) q; omega
    obtain ⟨G, G2, h1, h2⟩ := lk_0 (sm := sm) (tm := tm) (p0 := p0) (p1 := Int32.ofNat W) (v4 := v4) (v49 := Int32.ofNat v) (g5 := g5) (g50 := l) (g51 := t) 50 0 t rfl (fun x hx => by omega)
    have e2 : B_X12_layLikely_31_2 sm tm p0 (Int32.ofNat W) v4 g5 (Int32.ofNat v, l, t) = Sum.inl (Int32.ofNat v + 1, G2, G) := by
      unfold B_X12_layLikely_31_2
      try dsimp only [LetF]
      exact (if_neg cv).trans h1
    obtain ⟨L, T, h3, h4⟩ := lk_w (sm := sm) (tm := tm) (p0 := p0) (v4 := v4) (g5 := g5) hW n (v + 1) f2 G2 G (by omega) (by omega)
    refine ⟨L, T, by rw [LT_st e2, ofn_s (by omega), h3], G2, h2, h4⟩
