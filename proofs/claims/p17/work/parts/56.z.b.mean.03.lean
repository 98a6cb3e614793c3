/-- the mean from so many weeks before the end -/
def VAL (sm : Nat → Nat → Int32) (tm : Nat → Nat → Int64) (r : Int32) (W : Nat) : Nat → Int32 → Nat → Int64
  | 0, _, h => (J_X12_bonus sm tm (Int32.ofNat h)).toInt64
  | n + 1, c, h => mnT sm tm r (Int32.ofNat (W - (n + 1))) c (VAL sm tm r W n 0) h
theorem mnT_c {sm : Nat → Nat → Int32} {tm : Nat → Nat → Int64} {r w c : Int32} {V V2 : Nat → Int64} {x : Nat} (h : ∀ y, y < 50 → ¬ J_X12_isHands sm tm (Int32.ofNat y) = 0 → V y = V2 y) : mnT sm tm r w c V x = mnT sm tm r w c V2 x := by
  have e : SML (onT sm tm V (thR sm tm r w x)) 50 0 = SML (onT sm tm V2 (thR sm tm r w x)) 50 0 := sml_c 50 0 (fun j _ hj => by
    unfold onT
    by_cases q : J_X12_isHands sm tm (Int32.ofNat j) = 0
    · rw [if_pos q, if_pos q]
    · rw [if_neg q, if_neg q, h j (by omega) q])
  unfold mnT
  rw [e]
theorem mn_w {sm : Nat → Nat → Int32} {tm : Nat → Nat → Int64} {p0 p2 p3 v15 : Int32} {g16 : Nat → Int64} {W P : Nat} (hW : W ≤ 5) (hP : P ≤ W) (h2 : ∀ x, x = p2.toNatClampNeg → x < 500 ∧ ¬ J_X12_isHands sm tm (Int32.ofNat x) = 0) : ∀ (n f m : Nat) (V t : Nat → Int64), P + n + m = W → n + 1 ≤ f → (∀ x, x < 500 → ¬ J_X12_isHands sm tm (Int32.ofNat x) = 0 → V x = VAL sm tm p0 W m (if n = 0 then p3 else 0) x) → ∃ A B : Nat → Int64, LTs (Sum.inl default) (B_X12_layMean_54_2 sm tm p0 (Int32.ofNat P) p2 p3 v15 g16) f (Int32.ofNat (P + n) + (-1), V, t) = Sum.inr (VAL sm tm p0 W (W - P) p3 p2.toNatClampNeg, A, B)
  | 0, f, m, V, t, e0, hf, hV => by
    obtain ⟨f2, rfl⟩ : ∃ f2, f = f2 + 1 := ⟨f - 1, by omega⟩
    have u : (Int32.ofNat (P + 0) + (-1)).toInt = (P : Int) - 1 := by rw [i_add (ofn_t (k := P + 0) (by omega)) (by decide : (-1 : Int32).toInt = -1) (by omega) (by omega)]; omega
    have c : Int32.ofNat (P + 0) + (-1) < Int32.ofNat P := Int32.lt_iff_toInt_lt.mpr (by rw [u, ofn_t (by omega)]; omega)
    have e2 : B_X12_layMean_54_2 sm tm p0 (Int32.ofNat P) p2 p3 v15 g16 (Int32.ofNat (P + 0) + (-1), V, t) = Sum.inr (Sum.inr (V p2.toNatClampNeg, V, t)) := by
      unfold B_X12_layMean_54_2
      try dsimp only [LetF]
      exact if_pos c
    obtain ⟨k1, k2⟩ := h2 _ rfl
    refine ⟨V, t, ?_⟩
    rw [LT_en e2, hV _ k1 k2, if_pos rfl, show m = W - P from by omega]
  | n + 1, f, m, V, t, e0, hf, hV => by
    obtain ⟨f2, rfl⟩ : ∃ f2, f = f2 + 1 := ⟨f - 1, by omega⟩
    have ue : Int32.ofNat (P + (n + 1)) + (-1) = Int32.ofNat (P + n) := Int32.toInt_inj.mp (by rw [i_add (ofn_t (k := P + (n + 1)) (by omega)) (by decide : (-1 : Int32).toInt = -1) (by omega) (by omega), ofn_t (by omega)]; omega)
    rw [ue]
    have c : ¬ Int32.ofNat (P + n) < Int32.ofNat P := fun q => by have := f_lt (ofn_t (k := P + n) (by omega)) (ofn_t (k := P) (by omega)) q; omega
    obtain ⟨G, G2, g1, _, g3, g4⟩ := mn_h (sm := sm) (tm := tm) (p0 := p0) (p1 := Int32.ofNat P) (p2 := p2) (p3 := p3) (v15 := v15) (v64 := Int32.ofNat (P + n)) (g16 := g16) (g65 := V) (g66 := t) 500 0 t rfl
    have e2 : B_X12_layMean_54_2 sm tm p0 (Int32.ofNat P) p2 p3 v15 g16 (Int32.ofNat (P + n), V, t) = Sum.inl (Int32.ofNat (P + n) + (-1), G2, G) := by
      unfold B_X12_layMean_54_2
      try dsimp only [LetF]
      exact (if_neg c).trans g1
    have hc : (if Int32.ofNat (P + n) = Int32.ofNat P then p3 else (0 : Int32)) = (if n = 0 then p3 else 0) := by
      by_cases q : n = 0
      · rw [if_pos q, if_pos (by rw [q]; rfl)]
      · rw [if_neg q, if_neg (fun z => q (by have := congrArg Int32.toInt z; rw [ofn_t (by omega), ofn_t (by omega)] at this; omega))]
    have hV2 : ∀ x, x < 500 → ¬ J_X12_isHands sm tm (Int32.ofNat x) = 0 → G2 x = VAL sm tm p0 W (m + 1) (if n = 0 then p3 else 0) x := fun x hx hi => by
      rw [g4 x hx, g3 x (Nat.zero_le x) hx hi, hc]
      show _ = mnT sm tm p0 (Int32.ofNat (W - (m + 1))) (if n = 0 then p3 else 0) (VAL sm tm p0 W m 0) x
      rw [show W - (m + 1) = P + n from by omega]
      refine mnT_c (fun y hy hi2 => ?_)
      rw [hV y (by omega) hi2, if_neg (by omega)]
    obtain ⟨A, B, r1⟩ := mn_w (v15 := v15) (g16 := g16) hW hP h2 n f2 (m + 1) G2 G (by omega) (by omega) hV2
    exact ⟨A, B, by rw [LT_st e2]; exact r1⟩
