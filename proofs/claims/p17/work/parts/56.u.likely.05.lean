theorem lk_i {sm : Nat → Nat → Int32} {tm : Nat → Nat → Int64} {p0 : Int32} {W : Nat} (hW : W ≤ 5) : ∀ (n j : Nat) (g : Nat → Int64), j + n = 50 → (∀ x, x < j → g x = if x = 0 then 1 else 0) → ∃ l L T : Nat → Int64, LTs default (B_X12_layLikely_2 sm tm p0 (Int32.ofNat W)) (n + 1) (Int32.ofNat j, g) = (L, T) ∧ (∀ x, x < 50 → l x = if x = 0 then 1 else 0) ∧ LKR sm tm p0 W 0 l L
  | 0, j, g, e0, hz => by
    have e : j = 50 := by omega
    subst e
    obtain ⟨L, T, h1, h2⟩ := lk_w (sm := sm) (tm := tm) (p0 := p0) (v4 := Int32.ofNat 50) (g5 := g) hW W 0 6 g (tm 9) (by omega) (by omega)
    have e1 : ∀ v : Int32, 50 ≤ v → B_X12_layLikely_2 sm tm p0 (Int32.ofNat W) (v, g) = LTs (Sum.inl default) (B_X12_layLikely_31_2 sm tm p0 (Int32.ofNat W) v g) 6 ((0 : Int32), g, (tm 9)) := fun v hv => if_pos hv
    have e2 : B_X12_layLikely_2 sm tm p0 (Int32.ofNat W) (Int32.ofNat 50, g) = Sum.inr (L, T) := (e1 _ (by decide)).trans h1
    exact ⟨g, L, T, LT_en e2, hz, h2⟩
  | n + 1, j, g, e0, hz => by
    have cj : ¬ (50 : Int32) ≤ Int32.ofNat j := fun q => by have := f_le (by decide : (50 : Int32).toInt = 50) (ofn_t (k := j) (by omega)) q; omega
    have ej : (Int32.ofNat j).toNatClampNeg = j := ofn_c (by omega)
    have e2 : B_X12_layLikely_2 sm tm p0 (Int32.ofNat W) (Int32.ofNat j, g) = Sum.inl (Int32.ofNat (j + 1), vp_updL g j (if j = 0 then 1 else 0)) := by
      by_cases q : Int32.ofNat j = 0
      · have j0 : j = 0 := by have := f_eq (ofn_t (k := j) (by omega)) (by decide : (0 : Int32).toInt = 0) q; omega
        have e3 : B_X12_layLikely_2 sm tm p0 (Int32.ofNat W) (Int32.ofNat j, g) = Sum.inl (Int32.ofNat j + 1, vp_updL g (Int32.ofNat j).toNatClampNeg 1) := by
          unfold B_X12_layLikely_2
          try dsimp only [LetF]
          exact (if_neg cj).trans (if_pos q)
        rw [e3, ej, ofn_s (by omega), if_pos j0]
      · have j0 : ¬ j = 0 := fun z => q (by rw [z]; rfl)
        have e3 : B_X12_layLikely_2 sm tm p0 (Int32.ofNat W) (Int32.ofNat j, g) = Sum.inl (Int32.ofNat j + 1, vp_updL g (Int32.ofNat j).toNatClampNeg 0) := by
          unfold B_X12_layLikely_2
          try dsimp only [LetF]
          exact (if_neg cj).trans (if_neg q)
        rw [e3, ej, ofn_s (by omega), if_neg j0]
    obtain ⟨l, L, T, h1, h2, h3⟩ := lk_i (sm := sm) (tm := tm) (p0 := p0) hW n (j + 1) (vp_updL g j (if j = 0 then 1 else 0)) (by omega) (fun x hx => by
      by_cases q : x = j
      · rw [q, updL_s]
      · rw [updL_n q]; exact hz x (by omega))
    exact ⟨l, L, T, by rw [LT_st e2, h1], h2, h3⟩
