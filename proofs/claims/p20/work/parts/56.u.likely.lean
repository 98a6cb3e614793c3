/-! how likely hands are there, by the reference -/
theorem lk_c {sm : Nat → Nat → Int32} {tm : Nat → Nat → Int64} {p0 p1 v4 v49 v57 v93 : Int32} {g5 g50 g51 g58 g94 : Nat → Int64} : ∀ (n j : Nat) (g : Nat → Int64), j + n = 50 → ∃ G : Nat → Int64, LTs (Sum.inl default) (B_X12_layLikely_164_5 sm tm p0 p1 v4 g5 v49 g50 g51 v57 g58 v93 g94) (n + 1) (Int32.ofNat j, g) = Sum.inr (Sum.inr (Sum.inl (v49 + 1, G, g94))) ∧ (∀ x, x < j → G x = g x) ∧ ∀ x, j ≤ x → x < 50 → G x = g94 x
  | 0, j, g, h => by
    have e : j = 50 := by omega
    subst e
    have e2 : B_X12_layLikely_164_5 sm tm p0 p1 v4 g5 v49 g50 g51 v57 g58 v93 g94 (Int32.ofNat 50, g) = Sum.inr (Sum.inr (Sum.inr (Sum.inl (v49 + 1, g, g94)))) := rfl
    exact ⟨g, LT_en e2, fun x _ => rfl, fun x h1 h2 => by omega⟩
  | n + 1, j, g, h => by
    have cj : ¬ (50 : Int32) ≤ Int32.ofNat j := fun q => by have := f_le (by decide : (50 : Int32).toInt = 50) (ofn_t (k := j) (by omega)) q; omega
    have ej : (Int32.ofNat j).toNatClampNeg = j := ofn_c (by omega)
    have e2 : B_X12_layLikely_164_5 sm tm p0 p1 v4 g5 v49 g50 g51 v57 g58 v93 g94 (Int32.ofNat j, g) = Sum.inl (Int32.ofNat j + 1, vp_updL g (Int32.ofNat j).toNatClampNeg (g94 (Int32.ofNat j).toNatClampNeg)) := by
      unfold B_X12_layLikely_164_5
      try dsimp only [LetF]
      exact if_neg cj
    rw [ej, ofn_s (by omega)] at e2
    obtain ⟨G, h1, h2, h3⟩ := lk_c (sm := sm) (tm := tm) (p0 := p0) (p1 := p1) (v4 := v4) (v49 := v49) (v57 := v57) (v93 := v93) (g5 := g5) (g50 := g50) (g51 := g51) (g58 := g58) (g94 := g94) n (j + 1) (vp_updL g j (g94 j)) (by omega)
    refine ⟨G, by rw [LT_st e2, h1], fun x hx => ?_, fun x h4 h5 => ?_⟩
    · rw [h2 x (by omega), updL_n (by omega)]
    · by_cases q : x = j
      · rw [h2 x (by omega), q, updL_s]
      · exact h3 x (by omega) h5
def lkT (sm : Nat → Nat → Int32) (tm : Nat → Nat → Int64) (th : Int32) (s : Int64) (x : Nat) : Int64 := if J_X12_isHands sm tm (Int32.ofNat x) = 0 then 0 else s * (J_X12_sundayOf sm tm th (Int32.ofNat x)).toInt64
theorem lk_n {sm : Nat → Nat → Int32} {tm : Nat → Nat → Int64} {p0 p1 v4 v49 v57 y121 y125 : Int32} {g5 g50 g51 g58 g94 : Nat → Int64} {h : Nat} (hh : h < 50) : ∀ (n j : Nat) (g : Nat → Int64), j + n = 50 → ∃ G : Nat → Int64, LTs (Sum.inl default) (B_X12_layLikely_102_6 sm tm p0 p1 v4 g5 v49 g50 g51 v57 g58 (Int32.ofNat h) g94 y121 y125) (n + 1) (Int32.ofNat j, g) = Sum.inl (Int32.ofNat (h + 1), G) ∧ ∀ x, x < 50 → G x = g x + (if j ≤ x then lkT sm tm y125 (g50 h) x else 0)
  | 0, j, g, e0 => by
    have e : j = 50 := by omega
    subst e
    have e2 : B_X12_layLikely_102_6 sm tm p0 p1 v4 g5 v49 g50 g51 v57 g58 (Int32.ofNat h) g94 y121 y125 (Int32.ofNat 50, g) = Sum.inr (Sum.inl (Int32.ofNat h + 1, g)) := rfl
    refine ⟨g, by rw [LT_en e2, ofn_s (by omega)], fun x hx => ?_⟩
    rw [if_neg (by omega), Int64.add_zero]
  | n + 1, j, g, e0 => by
    have cj : ¬ (50 : Int32) ≤ Int32.ofNat j := fun q => by have := f_le (by decide : (50 : Int32).toInt = 50) (ofn_t (k := j) (by omega)) q; omega
    have ej : (Int32.ofNat j).toNatClampNeg = j := ofn_c (by omega)
    have eh : (Int32.ofNat h).toNatClampNeg = h := ofn_c (by omega)
    have e2 : B_X12_layLikely_102_6 sm tm p0 p1 v4 g5 v49 g50 g51 v57 g58 (Int32.ofNat h) g94 y121 y125 (Int32.ofNat j, g) = Sum.inl (Int32.ofNat (j + 1), vp_updL g j (g j + lkT sm tm y125 (g50 h) j)) := by
      unfold lkT
      by_cases c : J_X12_isHands sm tm (Int32.ofNat j) = 0
      · have q : B_X12_layLikely_102_6 sm tm p0 p1 v4 g5 v49 g50 g51 v57 g58 (Int32.ofNat h) g94 y121 y125 (Int32.ofNat j, g) = Sum.inl (Int32.ofNat j + 1, vp_updL g (Int32.ofNat j).toNatClampNeg (g (Int32.ofNat j).toNatClampNeg + 0)) := by
          unfold B_X12_layLikely_102_6
          try dsimp only [LetF]
          exact (if_neg cj).trans (if_pos c)
        rw [q, if_pos c, ej, ofn_s (by omega)]
      · have q : B_X12_layLikely_102_6 sm tm p0 p1 v4 g5 v49 g50 g51 v57 g58 (Int32.ofNat h) g94 y121 y125 (Int32.ofNat j, g) = Sum.inl (Int32.ofNat j + 1, vp_updL g (Int32.ofNat j).toNatClampNeg (g (Int32.ofNat j).toNatClampNeg + g50 (Int32.ofNat h).toNatClampNeg * (J_X12_sundayOf sm tm y125 (Int32.ofNat j)).toInt64)) := by
          unfold B_X12_layLikely_102_6
          try dsimp only [LetF]
          exact (if_neg cj).trans (if_neg c)
        rw [q, if_neg c, ej, eh, ofn_s (by omega)]
    obtain ⟨G, h1, h2⟩ := lk_n (sm := sm) (tm := tm) (p0 := p0) (p1 := p1) (v4 := v4) (v49 := v49) (v57 := v57) (y121 := y121) (y125 := y125) (g5 := g5) (g50 := g50) (g51 := g51) (g58 := g58) (g94 := g94) hh n (j + 1) (vp_updL g j (g j + lkT sm tm y125 (g50 h) j)) (by omega)
    refine ⟨G, by rw [LT_st e2, h1], fun x hx => ?_⟩
    rw [h2 x hx]
    by_cases q : x = j
    · subst q
      rw [updL_s, if_neg (by omega), if_pos (Nat.le_refl x), Int64.add_zero]
    · rw [updL_n q]
      by_cases q2 : j ≤ x
      · rw [if_pos q2, if_pos (by omega)]
      · rw [if_neg q2, if_neg (by omega)]
def lkH (sm : Nat → Nat → Int32) (tm : Nat → Nat → Int64) (r v : Int32) (l : Nat → Int64) (x h : Nat) : Int64 := if lg_cmp (l h) 0 ≤ 0 then 0 else lkT sm tm (J_X12_after sm tm v (Int32.ofNat h) (J_X12_ruleAct sm tm r v (Int32.ofNat h))) (l h) x
theorem lk_h {sm : Nat → Nat → Int32} {tm : Nat → Nat → Int64} {p0 p1 v4 v49 v57 : Int32} {g5 g50 g51 g58 : Nat → Int64} : ∀ (n h : Nat) (g : Nat → Int64), h + n = 50 → ∃ G G2 : Nat → Int64, LTs (Sum.inl default) (B_X12_layLikely_63_4 sm tm p0 p1 v4 g5 v49 g50 g51 v57 g58) (n + 1) (Int32.ofNat h, g) = Sum.inr (Sum.inl (v49 + 1, G2, G)) ∧ (∀ x, x < 50 → G x = g x + SML (lkH sm tm p0 v49 g50 x) n h) ∧ ∀ x, x < 50 → G2 x = G x
  | 0, h, g, e0 => by
    have e : h = 50 := by omega
    subst e
    obtain ⟨G, h1, _, h3⟩ := lk_c (sm := sm) (tm := tm) (p0 := p0) (p1 := p1) (v4 := v4) (v49 := v49) (v57 := v57) (v93 := Int32.ofNat 50) (g5 := g5) (g50 := g50) (g51 := g51) (g58 := g58) (g94 := g) 50 0 g50 rfl
    have e1 : ∀ v : Int32, 50 ≤ v → B_X12_layLikely_63_4 sm tm p0 p1 v4 g5 v49 g50 g51 v57 g58 (v, g) = LTs (Sum.inl default) (B_X12_layLikely_164_5 sm tm p0 p1 v4 g5 v49 g50 g51 v57 g58 v g) 51 ((0 : Int32), g50) := fun v hv => if_pos hv
    have e2 : B_X12_layLikely_63_4 sm tm p0 p1 v4 g5 v49 g50 g51 v57 g58 (Int32.ofNat 50, g) = Sum.inr (Sum.inr (Sum.inl (v49 + 1, G, g))) := (e1 _ (by decide)).trans h1
    exact ⟨g, G, LT_en e2, fun x _ => (Int64.add_zero _).symm, fun x hx => h3 x (Nat.zero_le x) hx⟩
  | n + 1, h, g, e0 => by
    have ch : ¬ (50 : Int32) ≤ Int32.ofNat h := fun q => by have := f_le (by decide : (50 : Int32).toInt = 50) (ofn_t (k := h) (by omega)) q; omega
    have eh : (Int32.ofNat h).toNatClampNeg = h := ofn_c (by omega)
    by_cases c : lg_cmp (g50 (Int32.ofNat h).toNatClampNeg) 0 ≤ 0
    · have e2 : B_X12_layLikely_63_4 sm tm p0 p1 v4 g5 v49 g50 g51 v57 g58 (Int32.ofNat h, g) = Sum.inl (Int32.ofNat h + 1, g) := by
        unfold B_X12_layLikely_63_4
        try dsimp only [LetF]
        exact (if_neg ch).trans (if_pos c)
      obtain ⟨G, G2, h1, h2, h3⟩ := lk_h (sm := sm) (tm := tm) (p0 := p0) (p1 := p1) (v4 := v4) (v49 := v49) (v57 := v57) (g5 := g5) (g50 := g50) (g51 := g51) (g58 := g58) n (h + 1) g (by omega)
      refine ⟨G, G2, by rw [LT_st e2, ofn_s (by omega), h1], fun x hx => ?_, h3⟩
      rw [eh] at c
      have z : lkH sm tm p0 v49 g50 x h = 0 := if_pos c
      rw [h2 x hx, sml_s, z, Int64.zero_add]
    · obtain ⟨Y, y1, y2⟩ := lk_n (sm := sm) (tm := tm) (p0 := p0) (p1 := p1) (v4 := v4) (v49 := v49) (v57 := v57) (y121 := J_X12_ruleAct sm tm p0 v49 (Int32.ofNat h)) (y125 := J_X12_after sm tm v49 (Int32.ofNat h) (J_X12_ruleAct sm tm p0 v49 (Int32.ofNat h))) (g5 := g5) (g50 := g50) (g51 := g51) (g58 := g58) (g94 := g) (h := h) (by omega) 50 0 g rfl
      have e2 : B_X12_layLikely_63_4 sm tm p0 p1 v4 g5 v49 g50 g51 v57 g58 (Int32.ofNat h, g) = Sum.inl (Int32.ofNat (h + 1), Y) := by
        unfold B_X12_layLikely_63_4
        try dsimp only [LetF]
        exact (if_neg ch).trans ((if_neg c).trans y1)
      obtain ⟨G, G2, h1, h2, h3⟩ := lk_h (sm := sm) (tm := tm) (p0 := p0) (p1 := p1) (v4 := v4) (v49 := v49) (v57 := v57) (g5 := g5) (g50 := g50) (g51 := g51) (g58 := g58) n (h + 1) Y (by omega)
      refine ⟨G, G2, by rw [LT_st e2, h1], fun x hx => ?_, h3⟩
      rw [eh] at c
      have z : lkH sm tm p0 v49 g50 x h = lkT sm tm (J_X12_after sm tm v49 (Int32.ofNat h) (J_X12_ruleAct sm tm p0 v49 (Int32.ofNat h))) (g50 h) x := if_neg c
      rw [h2 x hx, y2 x hx, if_pos (Nat.zero_le x), sml_s, z, Int64.add_assoc]
theorem lk_0 {sm : Nat → Nat → Int32} {tm : Nat → Nat → Int64} {p0 p1 v4 v49 : Int32} {g5 g50 g51 : Nat → Int64} : ∀ (n j : Nat) (g : Nat → Int64), j + n = 50 → (∀ x, x < j → g x = 0) → ∃ G G2 : Nat → Int64, LTs (Sum.inl default) (B_X12_layLikely_39_3 sm tm p0 p1 v4 g5 v49 g50 g51) (n + 1) (Int32.ofNat j, g) = Sum.inl (v49 + 1, G2, G) ∧ ∀ x, x < 50 → G2 x = SML (lkH sm tm p0 v49 g50 x) 50 0
  | 0, j, g, e0, hz => by
    have e : j = 50 := by omega
    subst e
    obtain ⟨G, G2, h1, h2, h3⟩ := lk_h (sm := sm) (tm := tm) (p0 := p0) (p1 := p1) (v4 := v4) (v49 := v49) (v57 := Int32.ofNat 50) (g5 := g5) (g50 := g50) (g51 := g51) (g58 := g) 50 0 g rfl
    have e1 : ∀ v : Int32, 50 ≤ v → B_X12_layLikely_39_3 sm tm p0 p1 v4 g5 v49 g50 g51 (v, g) = LTs (Sum.inl default) (B_X12_layLikely_63_4 sm tm p0 p1 v4 g5 v49 g50 g51 v g) 51 ((0 : Int32), g) := fun v hv => if_pos hv
    have e2 : B_X12_layLikely_39_3 sm tm p0 p1 v4 g5 v49 g50 g51 (Int32.ofNat 50, g) = Sum.inr (Sum.inl (v49 + 1, G2, G)) := (e1 _ (by decide)).trans h1
    exact ⟨G, G2, LT_en e2, fun x hx => by rw [h3 x hx, h2 x hx, hz x hx, Int64.zero_add]⟩
  | n + 1, j, g, e0, hz => by
    have cj : ¬ (50 : Int32) ≤ Int32.ofNat j := fun q => by have := f_le (by decide : (50 : Int32).toInt = 50) (ofn_t (k := j) (by omega)) q; omega
    have ej : (Int32.ofNat j).toNatClampNeg = j := ofn_c (by omega)
    have e2 : B_X12_layLikely_39_3 sm tm p0 p1 v4 g5 v49 g50 g51 (Int32.ofNat j, g) = Sum.inl (Int32.ofNat j + 1, vp_updL g (Int32.ofNat j).toNatClampNeg 0) := by
      unfold B_X12_layLikely_39_3
      try dsimp only [LetF]
      exact if_neg cj
    rw [ej, ofn_s (by omega)] at e2
    obtain ⟨G, G2, h1, h2⟩ := lk_0 (sm := sm) (tm := tm) (p0 := p0) (p1 := p1) (v4 := v4) (v49 := v49) (g5 := g5) (g50 := g50) (g51 := g51) n (j + 1) (vp_updL g j 0) (by omega) (fun x hx => by
      by_cases q : x = j
      · rw [q, updL_s]
      · rw [updL_n q]; exact hz x (by omega))
    exact ⟨G, G2, by rw [LT_st e2, h1], h2⟩
/-- week by week -/
def LKR (sm : Nat → Nat → Int32) (tm : Nat → Nat → Int64) (r : Int32) : Nat → Nat → (Nat → Int64) → (Nat → Int64) → Prop
  | 0, _, l, L => ∀ x, x < 50 → L x = l x
  | n + 1, v, l, L => ∃ l2 : Nat → Int64, (∀ x, x < 50 → l2 x = SML (lkH sm tm r (Int32.ofNat v) l x) 50 0) ∧ LKR sm tm r n (v + 1) l2 L
theorem lk_w {sm : Nat → Nat → Int32} {tm : Nat → Nat → Int64} {p0 v4 : Int32} {g5 : Nat → Int64} {W : Nat} (hW : W ≤ 5) : ∀ (n v f : Nat) (l t : Nat → Int64), v + n = W → n + 1 ≤ f → ∃ L T : Nat → Int64, LTs (Sum.inl default) (B_X12_layLikely_31_2 sm tm p0 (Int32.ofNat W) v4 g5) f (Int32.ofNat v, l, t) = Sum.inr (L, T) ∧ LKR sm tm p0 n v l L
  | 0, v, f, l, t, e0, hf => by
    have e : v = W := by omega
    subst e
    obtain ⟨f2, rfl⟩ : ∃ f2, f = f2 + 1 := ⟨f - 1, by omega⟩
    have e2 : B_X12_layLikely_31_2 sm tm p0 (Int32.ofNat v) v4 g5 (Int32.ofNat v, l, t) = Sum.inr (Sum.inr (l, t)) := by
      unfold B_X12_layLikely_31_2
      try dsimp only [LetF]
      exact if_pos (Int32.le_iff_toInt_le.mpr (Int.le_refl _))
    exact ⟨l, t, LT_en e2, fun x _ => rfl⟩
  | n + 1, v, f, l, t, e0, hf => by
    obtain ⟨f2, rfl⟩ : ∃ f2, f = f2 + 1 := ⟨f - 1, by omega⟩
    have cv : ¬ Int32.ofNat W ≤ Int32.ofNat v := fun q => by have := f_le (ofn_t (k := W) (by omega)) (ofn_t (k := v) (by omega)) q; omega
    obtain ⟨G, G2, h1, h2⟩ := lk_0 (sm := sm) (tm := tm) (p0 := p0) (p1 := Int32.ofNat W) (v4 := v4) (v49 := Int32.ofNat v) (g5 := g5) (g50 := l) (g51 := t) 50 0 t rfl (fun x hx => by omega)
    have e2 : B_X12_layLikely_31_2 sm tm p0 (Int32.ofNat W) v4 g5 (Int32.ofNat v, l, t) = Sum.inl (Int32.ofNat v + 1, G2, G) := by
      unfold B_X12_layLikely_31_2
      try dsimp only [LetF]
      exact (if_neg cv).trans h1
    obtain ⟨L, T, h3, h4⟩ := lk_w (sm := sm) (tm := tm) (p0 := p0) (v4 := v4) (g5 := g5) hW n (v + 1) f2 G2 G (by omega) (by omega)
    refine ⟨L, T, by rw [LT_st e2, ofn_s (by omega), h3], G2, h2, h4⟩
theorem lk_i {sm : Nat → Nat → Int32} {tm : Nat → Nat → Int64} {p0 : Int32} {W : Nat} (hW : W ≤ 5) : ∀ (n j : Nat) (g : Nat → Int64), j + n = 50 → (∀ x, x < j → g x = if x = 0 then 1 else 0) → ∃ l L T : Nat → Int64, LTs default (B_X12_layLikely_2 sm tm p0 (Int32.ofNat W)) (n + 1) (Int32.ofNat j, g) = (L, T) ∧ (∀ x, x < 50 → l x = if x = 0 then 1 else 0) ∧ LKR sm tm p0 W 0 l L
  | 0, j, g, e0, hz => by
    have e : j = 50 := by omega
    subst e
    obtain ⟨L, T, h1, h2⟩ := lk_w (sm := sm) (tm := tm) (p0 := p0) (v4 := Int32.ofNat 50) (g5 := g) hW W 0 6 g (tm 9) (by omega) (by omega)
    have e1 : ∀ v : Int32, 50 ≤ v → B_X12_layLikely_2 sm tm p0 (Int32.ofNat W) (v, g) = LTs (Sum.inl default) (B_X12_layLikely_31_2 sm tm p0 (Int32.ofNat W) v g) 6 ((0 : Int32), g, (tm 9)) := fun v hv => if_pos hv
    have e2 : B_X12_layLikely_2 sm tm p0 (Int32.ofNat W) (Int32.ofNat 50, g) = Sum.inr (L, T) := (e1 _ (by decide)).trans h1
    exact ⟨g, L, T, LT_en e2, hz, h2⟩
  | n + 1, j, g, e0, hz => by
    have cj : ¬ (50 : Int32) ≤ Int32.ofNat j := fun q => by have := f_le (by decide : (50 : Int32).toInt = 50) (ofn_t (k := j) (by omega)) q; omega
    have ej : (Int32.ofNat j).toNatClampNeg = j := ofn_c (by omega)
    have e2 : B_X12_layLikely_2 sm tm p0 (Int32.ofNat W) (Int32.ofNat j, g) = Sum.inl (Int32.ofNat (j + 1), vp_updL g j (if j = 0 then 1 else 0)) := by
      by_cases q : Int32.ofNat j = 0
      · have j0 : j = 0 := by have := f_eq (ofn_t (k := j) (by omega)) (by decide : (0 : Int32).toInt = 0) q; omega
        have e3 : B_X12_layLikely_2 sm tm p0 (Int32.ofNat W) (Int32.ofNat j, g) = Sum.inl (Int32.ofNat j + 1, vp_updL g (Int32.ofNat j).toNatClampNeg 1) := by
          unfold B_X12_layLikely_2
          try dsimp only [LetF]
          exact (if_neg cj).trans (if_pos q)
        rw [e3, ej, ofn_s (by omega), if_pos j0]
      · have j0 : ¬ j = 0 := fun z => q (by rw [z]; rfl)
        have e3 : B_X12_layLikely_2 sm tm p0 (Int32.ofNat W) (Int32.ofNat j, g) = Sum.inl (Int32.ofNat j + 1, vp_updL g (Int32.ofNat j).toNatClampNeg 0) := by
          unfold B_X12_layLikely_2
          try dsimp only [LetF]
          exact (if_neg cj).trans (if_neg q)
        rw [e3, ej, ofn_s (by omega), if_neg j0]
    obtain ⟨l, L, T, h1, h2, h3⟩ := lk_i (sm := sm) (tm := tm) (p0 := p0) hW n (j + 1) (vp_updL g j (if j = 0 then 1 else 0)) (by omega) (fun x hx => by
      by_cases q : x = j
      · rw [q, updL_s]
      · rw [updL_n q]; exact hz x (by omega))
    exact ⟨l, L, T, by rw [LT_st e2, h1], h2, h3⟩
theorem lk_v {sm : Nat → Nat → Int32} {tm : Nat → Nat → Int64} {p0 : Int32} {W : Nat} (hW : W ≤ 5) : ∃ l L T : Nat → Int64, J_X12_layLikely sm tm p0 (Int32.ofNat W) = (L, T) ∧ (∀ x, x < 50 → l x = if x = 0 then 1 else 0) ∧ LKR sm tm p0 W 0 l L := lk_i hW 50 0 (tm 8) rfl (fun x hx => by omega)
