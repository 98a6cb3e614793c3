/-! what the means cost is not below 0, where there are such -/
def NN (x : Int32) : Prop := x.toInt = -9 ∨ 0 ≤ x.toInt
def HNG (lg tp ap bo : Int32) : Prop := NN lg ∧ NN tp ∧ NN ap ∧ NN bo
def HNT (t : SP) : Prop := HNG t.2.2.2.2.2.2.2.1 t.2.2.2.2.2.2.2.2.1 t.2.2.2.2.2.2.2.2.2.1 t.2.2.2.2.2.2.2.2.2.2.1
theorem hng_pm {sh : Nat → Nat → Int32} {L x y : Int32} (h : HNT (HT sh)) (hx : 0 ≤ x.toInt ∧ x.toInt ≤ 9) : HNG (J_X4_putMeans sh L x y).1 (J_X4_putMeans sh L x y).2.1 (J_X4_putMeans sh L x y).2.2.1 (J_X4_putMeans sh L x y).2.2.2.1 := by
  obtain ⟨h1, h2, h3, h4⟩ := h
  have hx2 : NN x := Or.inr hx.1
  unfold J_X4_putMeans
  by_cases c1 : L = 65
  · rw [if_pos c1]; exact ⟨h1, h2, hx2, h4⟩
  · rw [if_neg c1]
    by_cases c2 : L = 66
    · rw [if_pos c2]; exact ⟨h1, h2, h3, hx2⟩
    · rw [if_neg c2]
      by_cases c3 : L = 71
      · rw [if_pos c3]; exact ⟨hx2, h2, h3, h4⟩
      · rw [if_neg c3]
        by_cases c4 : L = 84
        · rw [if_pos c4]; exact ⟨h1, hx2, h3, h4⟩
        · rw [if_neg c4]; exact ⟨h1, h2, h3, h4⟩
theorem hn_if {c : Prop} [Decidable c] {a b : SP} (h1 : HNT a) (h2 : HNT b) : HNT (if c then a else b) := by
  by_cases q : c
  · rw [if_pos q]; exact h1
  · rw [if_neg q]; exact h2
theorem hnt_put {sh : Nat → Nat → Int32} {L a x y : Int32} (h : HNT (HT sh)) (hx : 0 ≤ x.toInt ∧ x.toInt ≤ 9) : HNT (J_X4_put sh L a x y) := by
  have hM : HNG (J_X4_putMeans sh L x y).1 (J_X4_putMeans sh L x y).2.1 (J_X4_putMeans sh L x y).2.2.1 (J_X4_putMeans sh L x y).2.2.2.1 := hng_pm h hx
  unfold J_X4_put
  dsimp only
  exact hn_if h (hn_if hM (hn_if hM (hn_if hM (hn_if h (hn_if hM (hn_if hM (hn_if hM (hn_if hM (hn_if hM (hn_if hM (hn_if h (hn_if h (hn_if h (hn_if hM (hn_if h (hn_if hM (hn_if hM (hn_if hM (hn_if h (hM))))))))))))))))))))
