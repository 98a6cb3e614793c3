/-! the mean, by the reference: week by week from the last back -/
theorem ofn_u {k : Nat} (h : k < 5000) : (Int32.ofNat k).toInt = (k : Int) := nI_toInt (by omega)
theorem ofn_cu {k : Nat} (h : k < 5000) : (Int32.ofNat k).toNatClampNeg = k := wn_k (ofn_u h)
theorem ofn_su {k : Nat} (h : k < 4000) : Int32.ofNat k + 1 = Int32.ofNat (k + 1) := Int32.toInt_inj.mp (by rw [ofn_u (by omega), i_add (ofn_u (by omega)) (by decide : (1 : Int32).toInt = 1) (by omega) (by omega)]; omega)
def onT (sm : Nat → Nat → Int32) (tm : Nat → Nat → Int64) (V : Nat → Int64) (th : Int32) (x : Nat) : Int64 := if J_X12_isHands sm tm (Int32.ofNat x) = 0 then 0 else (J_X12_sundayOf sm tm th (Int32.ofNat x)).toInt64 * V x
theorem on_v {sm : Nat → Nat → Int32} {tm : Nat → Nat → Int64} {th : Int32} : ∀ (n x : Nat) (s : Int64), x + n = 50 → LTs default (B_X12_onward_5 sm tm th) (n + 1) (Int32.ofNat x, s) = s + SML (onT sm tm (tm 6) th) n x
  | 0, x, s, h => by
    have e : x = 50 := by omega
    subst e
    have e2 : B_X12_onward_5 sm tm th (Int32.ofNat 50, s) = Sum.inr s := rfl
    rw [LT_en e2]
    exact (Int64.add_zero s).symm
  | n + 1, x, s, h => by
    have cx : ¬ (50 : Int32) ≤ Int32.ofNat x := fun q => by have := f_le (by decide : (50 : Int32).toInt = 50) (ofn_t (k := x) (by omega)) q; omega
    have ex : (Int32.ofNat x).toNatClampNeg = x := ofn_c (by omega)
    have e2 : B_X12_onward_5 sm tm th (Int32.ofNat x, s) = Sum.inl (Int32.ofNat x + 1, s + onT sm tm (tm 6) th x) := by
      unfold onT
      by_cases q : J_X12_isHands sm tm (Int32.ofNat x) = 0
      · have z : B_X12_onward_5 sm tm th (Int32.ofNat x, s) = Sum.inl (Int32.ofNat x + 1, s + 0) := by
          unfold B_X12_onward_5
          try dsimp only [LetF]
          exact (if_neg cx).trans (if_pos q)
        rw [z, if_pos q]
      · have z : B_X12_onward_5 sm tm th (Int32.ofNat x, s) = Sum.inl (Int32.ofNat x + 1, s + (J_X12_sundayOf sm tm th (Int32.ofNat x)).toInt64 * tm 6 (Int32.ofNat x).toNatClampNeg) := by
          unfold B_X12_onward_5
          try dsimp only [LetF]
          exact (if_neg cx).trans (if_neg q)
        rw [z, if_neg q, ex]
    rw [LT_st e2, ofn_s (by omega), on_v n (x + 1) _ (by omega), sml_s, Int64.add_assoc]
theorem onward_v {sm : Nat → Nat → Int32} {tm : Nat → Nat → Int64} {th : Int32} : J_X12_onward sm tm th = SML (onT sm tm (tm 6) th) 50 0 := by
  have e : J_X12_onward sm tm th = 0 + SML (onT sm tm (tm 6) th) 50 0 := on_v 50 0 0 rfl
  rw [e, Int64.zero_add]
theorem mn_c {sm : Nat → Nat → Int32} {tm : Nat → Nat → Int64} {p0 p1 p2 p3 v15 v64 v107 : Int32} {g16 g65 g66 g108 : Nat → Int64} : ∀ (n j : Nat) (g : Nat → Int64), j + n = 500 → ∃ G : Nat → Int64, LTs (Sum.inl default) (B_X12_layMean_162_4 sm tm p0 p1 p2 p3 v15 g16 v64 g65 g66 v107 g108) (n + 1) (Int32.ofNat j, g) = Sum.inr (Sum.inl (v64 + (-1), G, g108)) ∧ (∀ x, x < j → G x = g x) ∧ ∀ x, j ≤ x → x < 500 → G x = g108 x
  | 0, j, g, h => by
    have e : j = 500 := by omega
    subst e
    have e2 : B_X12_layMean_162_4 sm tm p0 p1 p2 p3 v15 g16 v64 g65 g66 v107 g108 (Int32.ofNat 500, g) = Sum.inr (Sum.inr (Sum.inl (v64 + (-1), g, g108))) := rfl
    exact ⟨g, LT_en e2, fun x _ => rfl, fun x h1 h2 => by omega⟩
  | n + 1, j, g, h => by
    have cj : ¬ (500 : Int32) ≤ Int32.ofNat j := fun q => by have := f_le (by decide : (500 : Int32).toInt = 500) (ofn_t (k := j) (by omega)) q; omega
    have ej : (Int32.ofNat j).toNatClampNeg = j := ofn_c (by omega)
    have e2 : B_X12_layMean_162_4 sm tm p0 p1 p2 p3 v15 g16 v64 g65 g66 v107 g108 (Int32.ofNat j, g) = Sum.inl (Int32.ofNat j + 1, vp_updL g (Int32.ofNat j).toNatClampNeg (g108 (Int32.ofNat j).toNatClampNeg)) := by
      unfold B_X12_layMean_162_4
      try dsimp only [LetF]
      exact if_neg cj
    rw [ej, ofn_s (by omega)] at e2
    obtain ⟨G, h1, h2, h3⟩ := mn_c (sm := sm) (tm := tm) (p0 := p0) (p1 := p1) (p2 := p2) (p3 := p3) (v15 := v15) (v64 := v64) (v107 := v107) (g16 := g16) (g65 := g65) (g66 := g66) (g108 := g108) n (j + 1) (vp_updL g j (g108 j)) (by omega)
    refine ⟨G, by rw [LT_st e2, h1], fun x hx => ?_, fun x h4 h5 => ?_⟩
    · rw [h2 x (by omega), updL_n (by omega)]
    · by_cases q : x = j
      · rw [h2 x (by omega), q, updL_s]
      · exact h3 x (by omega) h5
def thR (sm : Nat → Nat → Int32) (tm : Nat → Nat → Int64) (r w : Int32) (x : Nat) : Int32 := J_X12_after sm tm w (Int32.ofNat x) (J_X12_ruleAct sm tm r w (Int32.ofNat x))
def mnT (sm : Nat → Nat → Int32) (tm : Nat → Nat → Int64) (r w c : Int32) (V : Nat → Int64) (x : Nat) : Int64 := (J_X12_costOf sm tm w (thR sm tm r w x) c (J_X12_ruleAct sm tm r w (Int32.ofNat x))).toInt64 * J_X12_parts ((sm 2) (0 : Int32).toNatClampNeg - w) + SML (onT sm tm V (thR sm tm r w x)) 50 0
theorem mn_h {sm : Nat → Nat → Int32} {tm : Nat → Nat → Int64} {p0 p1 p2 p3 v15 v64 : Int32} {g16 g65 g66 : Nat → Int64} : ∀ (n h : Nat) (g : Nat → Int64), h + n = 500 → ∃ G G2 : Nat → Int64, LTs (Sum.inl default) (B_X12_layMean_63_3 sm tm p0 p1 p2 p3 v15 g16 v64 g65 g66) (n + 1) (Int32.ofNat h, g) = Sum.inl (v64 + (-1), G2, G) ∧ (∀ x, x < h → G x = g x) ∧ (∀ x, h ≤ x → x < 500 → ¬ J_X12_isHands sm tm (Int32.ofNat x) = 0 → G x = mnT sm tm p0 v64 (if v64 = p1 then p3 else 0) g65 x) ∧ ∀ x, x < 500 → G2 x = G x
  | 0, h, g, e0 => by
    have e : h = 500 := by omega
    subst e
    obtain ⟨G, h1, _, h3⟩ := mn_c (sm := sm) (tm := tm) (p0 := p0) (p1 := p1) (p2 := p2) (p3 := p3) (v15 := v15) (v64 := v64) (v107 := Int32.ofNat 500) (g16 := g16) (g65 := g65) (g66 := g66) (g108 := g) 500 0 g65 rfl
    have e1 : ∀ v : Int32, 500 ≤ v → B_X12_layMean_63_3 sm tm p0 p1 p2 p3 v15 g16 v64 g65 g66 (v, g) = LTs (Sum.inl default) (B_X12_layMean_162_4 sm tm p0 p1 p2 p3 v15 g16 v64 g65 g66 v g) 501 ((0 : Int32), g65) := fun v hv => if_pos hv
    have e2 : B_X12_layMean_63_3 sm tm p0 p1 p2 p3 v15 g16 v64 g65 g66 (Int32.ofNat 500, g) = Sum.inr (Sum.inl (v64 + (-1), G, g)) := (e1 _ (by decide)).trans h1
    exact ⟨g, G, LT_en e2, fun x _ => rfl, fun x q1 q2 => by omega, fun x hx => h3 x (Nat.zero_le x) hx⟩
  | n + 1, h, g, e0 => by
    have ch : ¬ (500 : Int32) ≤ Int32.ofNat h := fun q => by have := f_le (by decide : (500 : Int32).toInt = 500) (ofn_t (k := h) (by omega)) q; omega
    have eh : (Int32.ofNat h).toNatClampNeg = h := ofn_c (by omega)
    by_cases c : J_X12_isHands sm tm (Int32.ofNat h) = 0
    · have e2 : B_X12_layMean_63_3 sm tm p0 p1 p2 p3 v15 g16 v64 g65 g66 (Int32.ofNat h, g) = Sum.inl (Int32.ofNat h + 1, g) := by
        unfold B_X12_layMean_63_3
        try dsimp only [LetF]
        exact (if_neg ch).trans (if_pos c)
      obtain ⟨G, G2, h1, h2, h3, h4⟩ := mn_h (sm := sm) (tm := tm) (p0 := p0) (p1 := p1) (p2 := p2) (p3 := p3) (v15 := v15) (v64 := v64) (g16 := g16) (g65 := g65) (g66 := g66) n (h + 1) g (by omega)
      refine ⟨G, G2, by rw [LT_st e2, ofn_s (by omega), h1], fun x hx => h2 x (by omega), fun x q1 q2 q3 => ?_, h4⟩
      by_cases q : x = h
      · rw [q] at q3; exact absurd c q3
      · exact h3 x (by omega) q2 q3
    · have e2 : B_X12_layMean_63_3 sm tm p0 p1 p2 p3 v15 g16 v64 g65 g66 (Int32.ofNat h, g) = Sum.inl (Int32.ofNat h + 1, vp_updL g h (mnT sm tm p0 v64 (if v64 = p1 then p3 else 0) g65 h)) := by
        have ow : J_X12_onward sm (up2L (up2L tm 6 g65) 7 g) (thR sm tm p0 v64 h) = SML (onT sm tm g65 (thR sm tm p0 v64 h)) 50 0 := onward_v
        unfold mnT
        rw [← ow]
        by_cases q : v64 = p1
        · have z : B_X12_layMean_63_3 sm tm p0 p1 p2 p3 v15 g16 v64 g65 g66 (Int32.ofNat h, g) = Sum.inl (Int32.ofNat h + 1, vp_updL g (Int32.ofNat h).toNatClampNeg ((J_X12_costOf sm tm v64 (thR sm tm p0 v64 h) p3 (J_X12_ruleAct sm tm p0 v64 (Int32.ofNat h))).toInt64 * J_X12_parts ((sm 2) (0 : Int32).toNatClampNeg - v64) + J_X12_onward sm (up2L (up2L tm 6 g65) 7 g) (thR sm tm p0 v64 h))) := by
            unfold B_X12_layMean_63_3
            try dsimp only [LetF]
            exact (if_neg ch).trans ((if_neg c).trans (if_pos q))
          rw [z, eh, if_pos q]
        · have z : B_X12_layMean_63_3 sm tm p0 p1 p2 p3 v15 g16 v64 g65 g66 (Int32.ofNat h, g) = Sum.inl (Int32.ofNat h + 1, vp_updL g (Int32.ofNat h).toNatClampNeg ((J_X12_costOf sm tm v64 (thR sm tm p0 v64 h) 0 (J_X12_ruleAct sm tm p0 v64 (Int32.ofNat h))).toInt64 * J_X12_parts ((sm 2) (0 : Int32).toNatClampNeg - v64) + J_X12_onward sm (up2L (up2L tm 6 g65) 7 g) (thR sm tm p0 v64 h))) := by
            unfold B_X12_layMean_63_3
            try dsimp only [LetF]
            exact (if_neg ch).trans ((if_neg c).trans (if_neg q))
          rw [z, eh, if_neg q]
      obtain ⟨G, G2, h1, h2, h3, h4⟩ := mn_h (sm := sm) (tm := tm) (p0 := p0) (p1 := p1) (p2 := p2) (p3 := p3) (v15 := v15) (v64 := v64) (g16 := g16) (g65 := g65) (g66 := g66) n (h + 1) (vp_updL g h (mnT sm tm p0 v64 (if v64 = p1 then p3 else 0) g65 h)) (by omega)
      refine ⟨G, G2, by rw [LT_st e2, ofn_s (by omega), h1], fun x hx => by rw [h2 x (by omega), updL_n (by omega)], fun x q1 q2 q3 => ?_, h4⟩
      by_cases q : x = h
      · rw [h2 x (by omega), q, updL_s]
      · exact h3 x (by omega) q2 q3
/-- the mean from so many weeks before the end -/
def VAL (sm : Nat → Nat → Int32) (tm : Nat → Nat → Int64) (r : Int32) (W : Nat) : Nat → Int32 → Nat → Int64
  | 0, _, h => (J_X12_bonus sm tm (Int32.ofNat h)).toInt64
  | n + 1, c, h => mnT sm tm r (Int32.ofNat (W - (n + 1))) c (VAL sm tm r W n 0) h
theorem mnT_c {sm : Nat → Nat → Int32} {tm : Nat → Nat → Int64} {r w c : Int32} {V V2 : Nat → Int64} {x : Nat} (h : ∀ y, y < 50 → ¬ J_X12_isHands sm tm (Int32.ofNat y) = 0 → V y = V2 y) : mnT sm tm r w c V x = mnT sm tm r w c V2 x := by
  have e : SML (onT sm tm V (thR sm tm r w x)) 50 0 = SML (onT sm tm V2 (thR sm tm r w x)) 50 0 := sml_c 50 0 (fun j _ hj => by
    unfold onT
    by_cases q : J_X12_isHands sm tm (Int32.ofNat j) = 0
    · rw [if_pos q, if_pos q]
    · rw [if_neg q, if_neg q, h j (by omega) q])
  unfold mnT
  rw [e]
theorem mn_w {sm : Nat → Nat → Int32} {tm : Nat → Nat → Int64} {p0 p2 p3 v15 : Int32} {g16 : Nat → Int64} {W P : Nat} (hW : W ≤ 5) (hP : P ≤ W) (h2 : ∀ x, x = p2.toNatClampNeg → x < 500 ∧ ¬ J_X12_isHands sm tm (Int32.ofNat x) = 0) : ∀ (n f m : Nat) (V t : Nat → Int64), P + n + m = W → n + 1 ≤ f → (∀ x, x < 500 → ¬ J_X12_isHands sm tm (Int32.ofNat x) = 0 → V x = VAL sm tm p0 W m (if n = 0 then p3 else 0) x) → ∃ A B : Nat → Int64, LTs (Sum.inl default) (B_X12_layMean_54_2 sm tm p0 (Int32.ofNat P) p2 p3 v15 g16) f (Int32.ofNat (P + n) + (-1), V, t) = Sum.inr (VAL sm tm p0 W (W - P) p3 p2.toNatClampNeg, A, B)
  | 0, f, m, V, t, e0, hf, hV => by
    obtain ⟨f2, rfl⟩ : ∃ f2, f = f2 + 1 := ⟨f - 1, by omega⟩
    have u : (Int32.ofNat (P + 0) + (-1)).toInt = (P : Int) - 1 := by rw [i_add (ofn_t (k := P + 0) (by omega)) (by decide : (-1 : Int32).toInt = -1) (by omega) (by omega)]; omega
    have c : Int32.ofNat (P + 0) + (-1) < Int32.ofNat P := Int32.lt_iff_toInt_lt.mpr (by rw [u, ofn_t (by omega)]; omega)
    have e2 : B_X12_layMean_54_2 sm tm p0 (Int32.ofNat P) p2 p3 v15 g16 (Int32.ofNat (P + 0) + (-1), V, t) = Sum.inr (Sum.inr (V p2.toNatClampNeg, V, t)) := by
      unfold B_X12_layMean_54_2
      try dsimp only [LetF]
      exact if_pos c
    obtain ⟨k1, k2⟩ := h2 _ rfl
    refine ⟨V, t, ?_⟩
    rw [LT_en e2, hV _ k1 k2, if_pos rfl, show m = W - P from by omega]
  | n + 1, f, m, V, t, e0, hf, hV => by
    obtain ⟨f2, rfl⟩ : ∃ f2, f = f2 + 1 := ⟨f - 1, by omega⟩
    have ue : Int32.ofNat (P + (n + 1)) + (-1) = Int32.ofNat (P + n) := Int32.toInt_inj.mp (by rw [i_add (ofn_t (k := P + (n + 1)) (by omega)) (by decide : (-1 : Int32).toInt = -1) (by omega) (by omega), ofn_t (by omega)]; omega)
    rw [ue]
    have c : ¬ Int32.ofNat (P + n) < Int32.ofNat P := fun q => by have := f_lt (ofn_t (k := P + n) (by omega)) (ofn_t (k := P) (by omega)) q; omega
    obtain ⟨G, G2, g1, _, g3, g4⟩ := mn_h (sm := sm) (tm := tm) (p0 := p0) (p1 := Int32.ofNat P) (p2 := p2) (p3 := p3) (v15 := v15) (v64 := Int32.ofNat (P + n)) (g16 := g16) (g65 := V) (g66 := t) 500 0 t rfl
    have e2 : B_X12_layMean_54_2 sm tm p0 (Int32.ofNat P) p2 p3 v15 g16 (Int32.ofNat (P + n), V, t) = Sum.inl (Int32.ofNat (P + n) + (-1), G2, G) := by
      unfold B_X12_layMean_54_2
      try dsimp only [LetF]
      exact (if_neg c).trans g1
    have hc : (if Int32.ofNat (P + n) = Int32.ofNat P then p3 else (0 : Int32)) = (if n = 0 then p3 else 0) := by
      by_cases q : n = 0
      · rw [if_pos q, if_pos (by rw [q]; rfl)]
      · rw [if_neg q, if_neg (fun z => q (by have := congrArg Int32.toInt z; rw [ofn_t (by omega), ofn_t (by omega)] at this; omega))]
    have hV2 : ∀ x, x < 500 → ¬ J_X12_isHands sm tm (Int32.ofNat x) = 0 → G2 x = VAL sm tm p0 W (m + 1) (if n = 0 then p3 else 0) x := fun x hx hi => by
      rw [g4 x hx, g3 x (Nat.zero_le x) hx hi, hc]
      show _ = mnT sm tm p0 (Int32.ofNat (W - (m + 1))) (if n = 0 then p3 else 0) (VAL sm tm p0 W m 0) x
      rw [show W - (m + 1) = P + n from by omega]
      refine mnT_c (fun y hy hi2 => ?_)
      rw [hV y (by omega) hi2, if_neg (by omega)]
    obtain ⟨A, B, r1⟩ := mn_w (v15 := v15) (g16 := g16) hW hP h2 n f2 (m + 1) G2 G (by omega) (by omega) hV2
    exact ⟨A, B, by rw [LT_st e2]; exact r1⟩
theorem mn_i {sm : Nat → Nat → Int32} {tm : Nat → Nat → Int64} {p0 p2 p3 : Int32} {W P : Nat} (hs : (sm 2) (0 : Int32).toNatClampNeg = Int32.ofNat W) (hW : W ≤ 5) (hP : P ≤ W) (h2 : ∀ x, x = p2.toNatClampNeg → x < 500 ∧ ¬ J_X12_isHands sm tm (Int32.ofNat x) = 0) : ∀ (n j : Nat) (g : Nat → Int64), j + n = 1000 → (∀ x, x < j → x < 500 → ¬ J_X12_isHands sm tm (Int32.ofNat x) = 0 → g x = (J_X12_bonus sm tm (Int32.ofNat x)).toInt64) → ∃ A B : Nat → Int64, LTs default (B_X12_layMean_3 sm tm p0 (Int32.ofNat P) p2 p3) (n + 1) (Int32.ofNat j, g) = (VAL sm tm p0 W (W - P) p3 p2.toNatClampNeg, A, B)
  | 0, j, g, h, hg => by
    have e : j = 1000 := by omega
    subst e
    obtain ⟨n, hn⟩ : ∃ n, W = P + n := ⟨W - P, by omega⟩
    obtain ⟨A, B, r1⟩ := mn_w (sm := sm) (tm := tm) (p0 := p0) (p2 := p2) (p3 := p3) (v15 := Int32.ofNat 1000) (g16 := g) hW hP h2 n 6 0 g (tm 7) (by omega) (by omega) (fun x hx hi => by rw [hg x (by omega) hx hi]; rfl)
    have u : Int32.ofNat W - 1 = Int32.ofNat (P + n) + (-1) := by
      rw [← hn]
      exact Int32.toInt_inj.mp (by rw [i_sub (ofn_t (k := W) (by omega)) (by decide : (1 : Int32).toInt = 1) (by omega) (by omega), i_add (ofn_t (k := W) (by omega)) (by decide : (-1 : Int32).toInt = -1) (by omega) (by omega)]; omega)
    have e2 : B_X12_layMean_3 sm tm p0 (Int32.ofNat P) p2 p3 (Int32.ofNat 1000, g) = LTs (Sum.inl default) (B_X12_layMean_54_2 sm tm p0 (Int32.ofNat P) p2 p3 (Int32.ofNat 1000) g) 6 ((sm 2) (0 : Int32).toNatClampNeg - (1 : Int32), g, tm 7) := rfl
    rw [hs, u] at e2
    exact ⟨A, B, LT_en (e2.trans r1)⟩
  | n + 1, j, g, h, hg => by
    have cj : ¬ (1000 : Int32) ≤ Int32.ofNat j := fun q => by have := f_le (by decide : (1000 : Int32).toInt = 1000) (ofn_u (k := j) (by omega)) q; omega
    have ej : (Int32.ofNat j).toNatClampNeg = j := ofn_cu (by omega)
    have st : ∀ v : Int64, (¬ J_X12_isHands sm tm (Int32.ofNat j) = 0 → v = (J_X12_bonus sm tm (Int32.ofNat j)).toInt64) → B_X12_layMean_3 sm tm p0 (Int32.ofNat P) p2 p3 (Int32.ofNat j, g) = Sum.inl (Int32.ofNat j + 1, vp_updL g (Int32.ofNat j).toNatClampNeg v) → ∃ A B : Nat → Int64, LTs default (B_X12_layMean_3 sm tm p0 (Int32.ofNat P) p2 p3) (n + 1 + 1) (Int32.ofNat j, g) = (VAL sm tm p0 W (W - P) p3 p2.toNatClampNeg, A, B) := fun v hv e2 => by
      rw [ej, ofn_su (by omega)] at e2
      obtain ⟨A, B, r1⟩ := mn_i (p0 := p0) (p3 := p3) hs hW hP h2 n (j + 1) (vp_updL g j v) (by omega) (fun x hx h5 hi => by
        by_cases q : x = j
        · rw [q, updL_s]; exact hv (by rw [← q]; exact hi)
        · rw [updL_n q]; exact hg x (by omega) h5 hi)
      exact ⟨A, B, by rw [LT_st e2]; exact r1⟩
    by_cases c : J_X12_isHands sm tm (Int32.ofNat j) = 0
    · refine st 0 (fun q => absurd c q) ?_
      unfold B_X12_layMean_3
      try dsimp only [LetF]
      exact (if_neg cj).trans (if_pos c)
    · refine st (J_X12_bonus sm tm (Int32.ofNat j)).toInt64 (fun _ => rfl) ?_
      unfold B_X12_layMean_3
      try dsimp only [LetF]
      exact (if_neg cj).trans (if_neg c)
theorem lm_v {sm : Nat → Nat → Int32} {tm : Nat → Nat → Int64} {p0 p2 p3 : Int32} {W P : Nat} (hs : (sm 2) (0 : Int32).toNatClampNeg = Int32.ofNat W) (hW : W ≤ 5) (hP : P ≤ W) (h2 : p2.toNatClampNeg < 500 ∧ ¬ J_X12_isHands sm tm (Int32.ofNat p2.toNatClampNeg) = 0) : (J_X12_layMean sm tm p0 (Int32.ofNat P) p2 p3).1 = VAL sm tm p0 W (W - P) p3 p2.toNatClampNeg := by
  obtain ⟨A, B, r1⟩ := mn_i (sm := sm) (tm := tm) (p0 := p0) (p2 := p2) (p3 := p3) hs hW hP (fun x hx => by rw [hx]; exact h2) 1000 0 (tm 6) rfl (fun x hx => by omega)
  have e : J_X12_layMean sm tm p0 (Int32.ofNat P) p2 p3 = LTs default (B_X12_layMean_3 sm tm p0 (Int32.ofNat P) p2 p3) 1001 ((0 : Int32), tm 6) := rfl
  rw [e]
  exact congrArg Prod.fst r1
