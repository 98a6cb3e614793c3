/-! the best, by the reference: week by week from the last back -/
theorem bo_x {sm : Nat → Nat → Int32} {t1 t2 : Nat → Nat → Int64} {s2 : Nat → Int32} {w : Int32} {h : Nat} : bOk (up2 sm 12 s2) t1 w h = bOk sm t2 w h := rfl
theorem bv_x {sm : Nat → Nat → Int32} {t1 t2 : Nat → Nat → Int64} {s2 : Nat → Int32} {w : Int32} {u : Int64} {V : Nat → Int64} {h c : Nat} : bV (up2 sm 12 s2) t1 w u V h c = bV sm t2 w u V h c := funext (fun k => by
  have e1 : ∀ x y z a : Int32, J_X12_costOf (up2 sm 12 s2) t1 x y z a = J_X12_costOf sm t2 x y z a := fun _ _ _ _ => rfl
  have e2 : ∀ x y a : Int32, J_X12_after (up2 sm 12 s2) t1 x y a = J_X12_after sm t2 x y a := fun _ _ _ => rfl
  have e3 : ∀ (V2 : Nat → Int64) (th : Int32), onT (up2 sm 12 s2) t1 V2 th = onT sm t2 V2 th := fun V2 th => funext (fun x => rfl)
  unfold bV
  rw [e1, e2, e3])
theorem bb_c {sm : Nat → Nat → Int32} {tm : Nat → Nat → Int64} {p0 v17 v51 v78 : Int32} {y64 : Int64} {g18 g52 g53 g79 : Nat → Int64} {g54 g80 : Nat → Int32} : ∀ (n j : Nat) (g : Nat → Int64), j + n = 1500 → ∃ G : Nat → Int64, LTs (Sum.inl default) (B_X12_layBest_106_4 sm tm p0 v17 g18 v51 g52 g53 g54 v78 g79 g80 y64) (n + 1) (Int32.ofNat j, g) = Sum.inr (Sum.inl (v51 + (-1), G, g79, g80)) ∧ (∀ x, x < j → G x = g x) ∧ ∀ x, j ≤ x → x < 1500 → G x = g79 x
  | 0, j, g, h => by
    have e : j = 1500 := by omega
    subst e
    have e1 : ∀ v : Int32, 1500 ≤ v → B_X12_layBest_106_4 sm tm p0 v17 g18 v51 g52 g53 g54 v78 g79 g80 y64 (v, g) = Sum.inr (Sum.inr (Sum.inl (v51 + (-1), g, g79, g80))) := fun v hv => if_pos hv
    exact ⟨g, LT_en (e1 (Int32.ofNat 1500) (by decide)), fun x _ => rfl, fun x h1 h2 => by omega⟩
  | n + 1, j, g, h => by
    have cj : ¬ (1500 : Int32) ≤ Int32.ofNat j := fun q => by have := f_le (by decide : (1500 : Int32).toInt = 1500) (ofn_u (k := j) (by omega)) q; omega
    have ej : (Int32.ofNat j).toNatClampNeg = j := ofn_cu (by omega)
    have e2 : B_X12_layBest_106_4 sm tm p0 v17 g18 v51 g52 g53 g54 v78 g79 g80 y64 (Int32.ofNat j, g) = Sum.inl (Int32.ofNat j + 1, vp_updL g (Int32.ofNat j).toNatClampNeg (g79 (Int32.ofNat j).toNatClampNeg)) := by
      unfold B_X12_layBest_106_4
      try dsimp only [LetF]
      exact if_neg cj
    rw [ej, ofn_su (by omega)] at e2
    obtain ⟨G, h1, h2, h3⟩ := bb_c (sm := sm) (tm := tm) (p0 := p0) (v17 := v17) (v51 := v51) (v78 := v78) (y64 := y64) (g18 := g18) (g52 := g52) (g53 := g53) (g54 := g54) (g79 := g79) (g80 := g80) n (j + 1) (vp_updL g j (g79 j)) (by omega)
    refine ⟨G, by rw [LT_st e2, h1], fun x hx => ?_, fun x h4 h5 => ?_⟩
    · rw [h2 x (by omega), updL_n (by omega)]
    · by_cases q : x = j
      · rw [h2 x (by omega), q, updL_s]
      · exact h3 x (by omega) h5
theorem bb_h {sm : Nat → Nat → Int32} {tm : Nat → Nat → Int64} {p0 v17 v51 : Int32} {y64 : Int64} {g18 g52 g53 : Nat → Int64} {g54 : Nat → Int32} : ∀ (n h : Nat) (g : Nat → Int64) (a : Nat → Int32), h + n = 500 → ∃ (G G2 : Nat → Int64) (A : Nat → Int32), LTs (Sum.inl default) (B_X12_layBest_72_3 sm tm p0 v17 g18 v51 g52 g53 g54 y64) (n + 1) (Int32.ofNat h, g, a) = Sum.inl (v51 + (-1), G2, G, A) ∧ (∀ x d, x < h → d < 3 → G (3 * x + d) = g (3 * x + d) ∧ A (3 * x + d) = a (3 * x + d)) ∧ (∀ x d, h ≤ x → x < 500 → d < 3 → ¬ J_X12_isHands sm tm (Int32.ofNat x) = 0 → ∃ b : Int32, (G (3 * x + d), A (3 * x + d)) = FBs (bOk sm tm v51 x) (bV sm tm v51 y64 g52 x d) AK 150 0 (-1, b)) ∧ ∀ x, x < 1500 → G2 x = G x
  | 0, h, g, a, e0 => by
    have e : h = 500 := by omega
    subst e
    obtain ⟨G, h1, _, h3⟩ := bb_c (sm := sm) (tm := tm) (p0 := p0) (v17 := v17) (v51 := v51) (v78 := Int32.ofNat 500) (y64 := y64) (g18 := g18) (g52 := g52) (g53 := g53) (g54 := g54) (g79 := g) (g80 := a) 1500 0 g52 rfl
    have e1 : ∀ v : Int32, 500 ≤ v → B_X12_layBest_72_3 sm tm p0 v17 g18 v51 g52 g53 g54 y64 (v, g, a) = LTs (Sum.inl default) (B_X12_layBest_106_4 sm tm p0 v17 g18 v51 g52 g53 g54 v g a y64) 1501 ((0 : Int32), g52) := fun v hv => if_pos hv
    exact ⟨g, G, a, LT_en ((e1 (Int32.ofNat 500) (by decide)).trans h1), fun x d _ _ => ⟨rfl, rfl⟩, fun x d q1 q2 => by omega, fun x hx => h3 x (Nat.zero_le x) hx⟩
  | n + 1, h, g, a, e0 => by
    have ch : ¬ (500 : Int32) ≤ Int32.ofNat h := fun q => by have := f_le (by decide : (500 : Int32).toInt = 500) (ofn_t (k := h) (by omega)) q; omega
    by_cases c : J_X12_isHands sm tm (Int32.ofNat h) = 0
    · have e2 : B_X12_layBest_72_3 sm tm p0 v17 g18 v51 g52 g53 g54 y64 (Int32.ofNat h, g, a) = Sum.inl (Int32.ofNat h + 1, g, a) := by
        unfold B_X12_layBest_72_3
        try dsimp only [LetF]
        exact (if_neg ch).trans (if_pos c)
      obtain ⟨G, G2, A, h1, h2, h3, h4⟩ := bb_h (sm := sm) (tm := tm) (p0 := p0) (v17 := v17) (v51 := v51) (y64 := y64) (g18 := g18) (g52 := g52) (g53 := g53) (g54 := g54) n (h + 1) g a (by omega)
      refine ⟨G, G2, A, by rw [LT_st e2, ofn_s (by omega), h1], fun x d hx hd => h2 x d (by omega) hd, fun x d q1 q2 q3 q4 => ?_, h4⟩
      by_cases q : x = h
      · rw [q] at q4; exact absurd c q4
      · exact h3 x d (by omega) q2 q3 q4
    · obtain ⟨G1, A1, b1, b2, b3⟩ := lbo_v (sm := up2 sm 12 a) (tm := up2L (up2L tm 10 g52) 11 g) (p0 := v51) (p2 := y64) (h := h) (by omega)
      have e2 : B_X12_layBest_72_3 sm tm p0 v17 g18 v51 g52 g53 g54 y64 (Int32.ofNat h, g, a) = (fun y : (Nat → Int64) × (Nat → Int32) => (Sum.inl (Int32.ofNat h + 1, y.1, y.2) : Sum (Int32 × (Nat → Int64) × (Nat → Int32)) (Sum (Int32 × (Nat → Int64) × (Nat → Int64) × (Nat → Int32)) (Sum (Int32 × (Nat → Int64)) ((Nat → Int64) × (Nat → Int64) × (Nat → Int32)))))) (J_X12_layBestOf (up2 sm 12 a) (up2L (up2L tm 10 g52) 11 g) v51 (Int32.ofNat h) y64) := by
        unfold B_X12_layBest_72_3
        try dsimp only [LetF]
        exact (if_neg ch).trans (if_neg c)
      rw [b1] at e2
      have e2 : B_X12_layBest_72_3 sm tm p0 v17 g18 v51 g52 g53 g54 y64 (Int32.ofNat h, g, a) = Sum.inl (Int32.ofNat h + 1, G1, A1) := e2
      obtain ⟨G, G2, A, h1, h2, h3, h4⟩ := bb_h (sm := sm) (tm := tm) (p0 := p0) (v17 := v17) (v51 := v51) (y64 := y64) (g18 := g18) (g52 := g52) (g53 := g53) (g54 := g54) n (h + 1) G1 A1 (by omega)
      refine ⟨G, G2, A, by rw [LT_st e2, ofn_s (by omega), h1], fun x d hx hd => ?_, fun x d q1 q2 q3 q4 => ?_, h4⟩
      · obtain ⟨z1, z2⟩ := h2 x d (by omega) hd
        obtain ⟨z3, z4⟩ := b2 (3 * x + d) (fun d2 hd2 => by omega)
        exact ⟨z1.trans z3, z2.trans z4⟩
      · by_cases q : x = h
        · subst q
          obtain ⟨z1, z2⟩ := h2 x d (by omega) q3
          refine ⟨a (3 * x + d), ?_⟩
          rw [z1, z2, b3 d q3, bo_x (t2 := tm), bv_x (t2 := tm)]
          rfl
        · exact h3 x d (by omega) q2 q3 q4
/-- the best with so many weeks to come -/
def FB1 (ok : Nat → Bool) (v : Nat → Int64) : Int64 × Int32 := FBs ok v AK 149 1 (v 0, AK 0)
theorem fb_g {ok : Nat → Bool} {v : Nat → Int64} {ac : Nat → Int32} {n k : Nat} {b : Int32} (h : ok k = true) : FBs ok v ac (n + 1) k (-1, b) = FBs ok v ac n (k + 1) (v k, ac k) := by
  have n1 : lg_cmp (-1 : Int64) 0 < 0 := by decide
  show FBs ok v ac n (k + 1) (if ok k = true then (if lg_cmp (-1 : Int64) 0 < 0 then (v k, ac k) else if 0 ≤ lg_cmp (v k) (-1) then ((-1 : Int64), b) else (v k, ac k)) else ((-1 : Int64), b)) = _
  rw [if_pos h, if_pos n1]
theorem fb_0 {ok : Nat → Bool} {v : Nat → Int64} {b : Int32} (h : ok 0 = true) : FBs ok v AK 150 0 (-1, b) = FB1 ok v := by
  unfold FB1
  exact fb_g (n := 149) (k := 0) h
def BVL (sm : Nat → Nat → Int32) (tm : Nat → Nat → Int64) (W : Nat) : Nat → Nat → Nat → Int64 × Int32
  | 0, h, _ => ((J_X12_bonus sm tm (Int32.ofNat h)).toInt64, 0)
  | n + 1, h, c => FB1 (bOk sm tm (Int32.ofNat (W - (n + 1))) h) (bV sm tm (Int32.ofNat (W - (n + 1))) (SCN (n + 1) 1) (fun x => (BVL sm tm W n (x / 3) (x % 3)).1) h c)
theorem bV_c {sm : Nat → Nat → Int32} {tm : Nat → Nat → Int64} {w : Int32} {u : Int64} {V V2 : Nat → Int64} {h c : Nat} (e : ∀ y o, y < 50 → o < 3 → ¬ J_X12_isHands sm tm (Int32.ofNat y) = 0 → V (3 * y + o) = V2 (3 * y + o)) : bV sm tm w u V h c = bV sm tm w u V2 h c := funext (fun k => by
  have z : SML (onT sm tm (fun y => V (3 * y + k % 3)) (J_X12_after sm tm w (Int32.ofNat h) (AK k))) 50 0 = SML (onT sm tm (fun y => V2 (3 * y + k % 3)) (J_X12_after sm tm w (Int32.ofNat h) (AK k))) 50 0 := sml_c 50 0 (fun j _ hj => by
    unfold onT
    by_cases q : J_X12_isHands sm tm (Int32.ofNat j) = 0
    · rw [if_pos q, if_pos q]
    · rw [if_neg q, if_neg q]
      exact congrArg (HMul.hMul _) (e j (k % 3) (by omega) (by omega) q))
  unfold bV
  rw [z])
/-- nothing done is always an ACT that may be -/
theorem bok_0 {sh sm : Nat → Nat → Int32} {tm : Nat → Nat → Int64} {w : Int32} {h : Nat} (K : HOK sh sm) (hw : 0 ≤ w.toInt ∧ w.toInt < (sh 0 0).toInt) (hh : 0 ≤ (Int32.ofNat h).toInt ∧ (Int32.ofNat h).toInt ≤ 400 ∧ tot (Int32.ofNat h) ≤ 4) (ht : tot (Int32.ofNat h) ≤ (sh 0 1).toInt) : bOk sm tm w h 0 = true := by
  have a0 : AK 0 = 100 * 0 := by decide
  have T0 := tot_0 (x := Int32.ofNat h) hh.1
  have ofr := K.2.2.2.2.2.1 w.toNatClampNeg
  have tt : (J_X3_total (Int32.ofNat h)).toInt = tot (Int32.ofNat h) := tot_t hh.1
  have hk := K.2.2.2.1
  have m0 : (0 : Int32) ≤ J_X4_mostTaken sh w (Int32.ofNat h) := by
    unfold J_X4_mostTaken
    have rm : (sh 0 1 - J_X3_total (Int32.ofNat h)).toInt = (sh 0 1).toInt - tot (Int32.ofNat h) := i_sub rfl tt (by omega) (by omega)
    by_cases q : sh 0 1 - J_X3_total (Int32.ofNat h) < sh 2 w.toNatClampNeg
    · rw [if_pos q]; exact Int32.le_iff_toInt_le.mpr (by rw [rm, show (0 : Int32).toInt = 0 from by decide]; omega)
    · rw [if_neg q]; exact Int32.le_iff_toInt_le.mpr (by rw [show (0 : Int32).toInt = 0 from by decide]; omega)
  have al := alw_t (sh := sh) (w := w) hh (t := 0) (by decide) m0
  unfold bOk
  rw [a0]
  rcases al_full (sm := sm) (tm := tm) (w := w) (h := Int32.ofNat h) (c := 0) (a := 100 * 0) K hw hh (by decide) (by decide) with ⟨x1, _⟩ | ⟨_, _, x3, _⟩
  · rw [al] at x1; exact absurd x1 (by decide)
  · exact decide_eq_true x3
theorem h500 {sh sm : Nat → Nat → Int32} {tm : Nat → Nat → Int64} {x : Nat} (K : HOK sh sm) (hx : x < 500) (hi : ¬ J_X12_isHands sm tm (Int32.ofNat x) = 0) : (0 ≤ (Int32.ofNat x).toInt ∧ (Int32.ofNat x).toInt ≤ 400 ∧ tot (Int32.ofNat x) ≤ 4) ∧ tot (Int32.ofNat x) ≤ (sh 0 1).toInt := hnd_r (sx := fun _ _ => 0) K (by rw [ih_eq K]; exact hi)
theorem bw_w {sh sm : Nat → Nat → Int32} {tm : Nat → Nat → Int64} {v17 : Int32} {g18 : Nat → Int64} {W P : Nat} (K : HOK sh sm) (hW : (sh 0 0).toInt = (W : Int)) (hP : P ≤ W) : ∀ (n f m : Nat) (V t : Nat → Int64) (a : Nat → Int32), P + n + m = W → n + 1 ≤ f → (∀ x d, x < 500 → d < 3 → ¬ J_X12_isHands sm tm (Int32.ofNat x) = 0 → V (3 * x + d) = (BVL sm tm W m x d).1 ∧ (0 < m → a (3 * x + d) = (BVL sm tm W m x d).2)) → ∃ (V2 B : Nat → Int64) (A : Nat → Int32), LTs (Sum.inl default) (B_X12_layBest_52_2 sm tm (Int32.ofNat P) v17 g18) f (Int32.ofNat (P + n) + (-1), V, t, a) = Sum.inr (V2, B, A) ∧ ∀ x d, x < 500 → d < 3 → ¬ J_X12_isHands sm tm (Int32.ofNat x) = 0 → V2 (3 * x + d) = (BVL sm tm W (W - P) x d).1 ∧ (P < W → A (3 * x + d) = (BVL sm tm W (W - P) x d).2)
  | 0, f, m, V, t, a, e0, hf, hV => by
    have wk := K.2.2.1
    obtain ⟨f2, rfl⟩ : ∃ f2, f = f2 + 1 := ⟨f - 1, by omega⟩
    have u : (Int32.ofNat (P + 0) + (-1)).toInt = (P : Int) - 1 := by rw [i_add (ofn_t (k := P + 0) (by omega)) (by decide : (-1 : Int32).toInt = -1) (by omega) (by omega)]; omega
    have c : Int32.ofNat (P + 0) + (-1) < Int32.ofNat P := Int32.lt_iff_toInt_lt.mpr (by rw [u, ofn_t (by omega)]; omega)
    have e2 : B_X12_layBest_52_2 sm tm (Int32.ofNat P) v17 g18 (Int32.ofNat (P + 0) + (-1), V, t, a) = Sum.inr (Sum.inr (V, t, a)) := by
      unfold B_X12_layBest_52_2
      try dsimp only [LetF]
      exact if_pos c
    have em : m = W - P := by omega
    subst em
    exact ⟨V, t, a, LT_en e2, fun x d q1 q2 q3 => ⟨(hV x d q1 q2 q3).1, fun z => (hV x d q1 q2 q3).2 (by omega)⟩⟩
  | n + 1, f, m, V, t, a, e0, hf, hV => by
    have wk := K.2.2.1
    obtain ⟨f2, rfl⟩ : ∃ f2, f = f2 + 1 := ⟨f - 1, by omega⟩
    have ue : Int32.ofNat (P + (n + 1)) + (-1) = Int32.ofNat (P + n) := Int32.toInt_inj.mp (by rw [i_add (ofn_t (k := P + (n + 1)) (by omega)) (by decide : (-1 : Int32).toInt = -1) (by omega) (by omega), ofn_t (by omega)]; omega)
    rw [ue]
    have pn : (Int32.ofNat (P + n)).toInt = ((P + n : Nat) : Int) := ofn_t (by omega)
    have c : ¬ Int32.ofNat (P + n) < Int32.ofNat P := fun q => by have := f_lt pn (ofn_t (k := P) (by omega)) q; omega
    have V0 : (sm 2) (0 : Int32).toNatClampNeg = sh 0 0 := by rw [n0_]; exact K.1.1
    have w0 : sh 0 0 = Int32.ofNat W := Int32.toInt_inj.mp (by rw [hW, ofn_t (by omega)])
    have ep : J_X12_parts ((sm 2) (0 : Int32).toNatClampNeg - Int32.ofNat (P + n)) = SCN (m + 1) 1 := by
      rw [V0, w0, show Int32.ofNat W - Int32.ofNat (P + n) = Int32.ofNat (m + 1) from Int32.toInt_inj.mp (by rw [i_sub (ofn_t (k := W) (by omega)) pn (by omega) (by omega), ofn_t (by omega)]; omega)]
      exact (parts_v (by omega)).1
    obtain ⟨G, G2, A, g1, _, g3, g4⟩ := bb_h (sm := sm) (tm := tm) (p0 := Int32.ofNat P) (v17 := v17) (v51 := Int32.ofNat (P + n)) (y64 := SCN (m + 1) 1) (g18 := g18) (g52 := V) (g53 := t) (g54 := a) 500 0 t a rfl
    have e2 : B_X12_layBest_52_2 sm tm (Int32.ofNat P) v17 g18 (Int32.ofNat (P + n), V, t, a) = LTs (Sum.inl default) (B_X12_layBest_72_3 sm tm (Int32.ofNat P) v17 g18 (Int32.ofNat (P + n)) V t a (J_X12_parts ((sm 2) (0 : Int32).toNatClampNeg - Int32.ofNat (P + n)))) 501 ((0 : Int32), t, a) := by
      unfold B_X12_layBest_52_2
      try dsimp only [LetF]
      exact if_neg c
    rw [ep] at e2
    have e3 := e2.trans g1
    have hV2 : ∀ x d, x < 500 → d < 3 → ¬ J_X12_isHands sm tm (Int32.ofNat x) = 0 → G2 (3 * x + d) = (BVL sm tm W (m + 1) x d).1 ∧ (0 < m + 1 → A (3 * x + d) = (BVL sm tm W (m + 1) x d).2) := fun x d q1 q2 q3 => by
      obtain ⟨b, hb⟩ := g3 x d (Nat.zero_le x) q1 q2 q3
      obtain ⟨k1, k2⟩ := h500 K q1 q3
      rw [fb_0 (bok_0 K ⟨by omega, by omega⟩ k1 k2)] at hb
      have eb : FB1 (bOk sm tm (Int32.ofNat (P + n)) x) (bV sm tm (Int32.ofNat (P + n)) (SCN (m + 1) 1) V x d) = BVL sm tm W (m + 1) x d := by
        show _ = FB1 (bOk sm tm (Int32.ofNat (W - (m + 1))) x) (bV sm tm (Int32.ofNat (W - (m + 1))) (SCN (m + 1) 1) (fun x => (BVL sm tm W m (x / 3) (x % 3)).1) x d)
        rw [show W - (m + 1) = P + n from by omega]
        refine congrArg (FB1 _) (bV_c (fun y o hy ho hi => ?_))
        rw [(hV y o (by omega) ho hi).1]
        show _ = (BVL sm tm W m ((3 * y + o) / 3) ((3 * y + o) % 3)).1
        rw [show (3 * y + o) / 3 = y from by omega, show (3 * y + o) % 3 = o from by omega]
      rw [eb] at hb
      obtain ⟨z1, z2⟩ := pk_pair hb
      exact ⟨(g4 _ (by omega)).trans z1, fun _ => z2⟩
    obtain ⟨V2, B, A2, r1, r2⟩ := bw_w (v17 := v17) (g18 := g18) K hW hP n f2 (m + 1) G2 G A (by omega) (by omega) hV2
    exact ⟨V2, B, A2, by rw [LT_st e3]; exact r1, r2⟩
theorem bw_i {sh sm : Nat → Nat → Int32} {tm : Nat → Nat → Int64} {W P : Nat} (K : HOK sh sm) (hW : (sh 0 0).toInt = (W : Int)) (hP : P ≤ W) : ∀ (n j : Nat) (g : Nat → Int64), j + n = 1500 → (∀ x, x < j → ¬ J_X12_isHands sm tm (Int32.ofNat (x / 3)) = 0 → g x = (J_X12_bonus sm tm (Int32.ofNat (x / 3))).toInt64) → ∃ (V2 B : Nat → Int64) (A : Nat → Int32), LTs default (B_X12_layBest_2 sm tm (Int32.ofNat P)) (n + 1) (Int32.ofNat j, g) = (V2, B, A) ∧ ∀ x d, x < 500 → d < 3 → ¬ J_X12_isHands sm tm (Int32.ofNat x) = 0 → V2 (3 * x + d) = (BVL sm tm W (W - P) x d).1 ∧ (P < W → A (3 * x + d) = (BVL sm tm W (W - P) x d).2)
  | 0, j, g, h, hg => by
    have wk := K.2.2.1
    have e : j = 1500 := by omega
    subst e
    have V0 : (sm 2) (0 : Int32).toNatClampNeg = sh 0 0 := by rw [n0_]; exact K.1.1
    have w0 : sh 0 0 = Int32.ofNat W := Int32.toInt_inj.mp (by rw [hW, ofn_t (by omega)])
    obtain ⟨n, hn⟩ : ∃ n, W = P + n := ⟨W - P, by omega⟩
    obtain ⟨V2, B, A, r1, r2⟩ := bw_w (sm := sm) (tm := tm) (v17 := Int32.ofNat 1500) (g18 := g) K hW hP n 6 0 g (tm 11) (sm 12) (by omega) (by omega) (fun x d hx hd hi => ⟨by
      have z := hg (3 * x + d) (by omega)
      rw [show (3 * x + d) / 3 = x from by omega] at z
      exact z hi, fun z => by omega⟩)
    have u : (sm 2) (0 : Int32).toNatClampNeg - 1 = Int32.ofNat (P + n) + (-1) := by
      rw [V0, w0, ← hn]
      exact Int32.toInt_inj.mp (by rw [i_sub (ofn_t (k := W) (by omega)) (by decide : (1 : Int32).toInt = 1) (by omega) (by omega), i_add (ofn_t (k := W) (by omega)) (by decide : (-1 : Int32).toInt = -1) (by omega) (by omega)]; omega)
    have e1 : ∀ v : Int32, 1500 ≤ v → B_X12_layBest_2 sm tm (Int32.ofNat P) (v, g) = LTs (Sum.inl default) (B_X12_layBest_52_2 sm tm (Int32.ofNat P) v g) 6 (((sm 2) (0 : Int32).toNatClampNeg - (1 : Int32)), g, (tm 11), (sm 12)) := fun v hv => if_pos hv
    have e2 := e1 (Int32.ofNat 1500) (by decide)
    rw [u] at e2
    exact ⟨V2, B, A, LT_en (e2.trans r1), r2⟩
  | n + 1, j, g, h, hg => by
    have cj : ¬ (1500 : Int32) ≤ Int32.ofNat j := fun q => by have := f_le (by decide : (1500 : Int32).toInt = 1500) (ofn_u (k := j) (by omega)) q; omega
    have ej : (Int32.ofNat j).toNatClampNeg = j := ofn_cu (by omega)
    have dj : Int32.ofNat j / 3 = Int32.ofNat (j / 3) := Int32.toInt_inj.mp (by rw [i_div (ofn_u (k := j) (by omega)) (by decide : (3 : Int32).toInt = 3) (by omega) (by omega) (by omega), ofn_u (by omega)]; omega)
    have st : ∀ v : Int64, (¬ J_X12_isHands sm tm (Int32.ofNat (j / 3)) = 0 → v = (J_X12_bonus sm tm (Int32.ofNat (j / 3))).toInt64) → B_X12_layBest_2 sm tm (Int32.ofNat P) (Int32.ofNat j, g) = Sum.inl (Int32.ofNat j + 1, vp_updL g (Int32.ofNat j).toNatClampNeg v) → ∃ (V2 B : Nat → Int64) (A : Nat → Int32), LTs default (B_X12_layBest_2 sm tm (Int32.ofNat P)) (n + 1 + 1) (Int32.ofNat j, g) = (V2, B, A) ∧ ∀ x d, x < 500 → d < 3 → ¬ J_X12_isHands sm tm (Int32.ofNat x) = 0 → V2 (3 * x + d) = (BVL sm tm W (W - P) x d).1 ∧ (P < W → A (3 * x + d) = (BVL sm tm W (W - P) x d).2) := fun v hv e2 => by
      rw [ej, ofn_su (by omega)] at e2
      obtain ⟨V2, B, A, r1, r2⟩ := bw_i K hW hP n (j + 1) (vp_updL g j v) (by omega) (fun x hx hi => by
        by_cases q : x = j
        · rw [q, updL_s]; exact hv (by rw [← q]; exact hi)
        · rw [updL_n q]; exact hg x (by omega) hi)
      exact ⟨V2, B, A, by rw [LT_st e2]; exact r1, r2⟩
    by_cases c : J_X12_isHands sm tm (Int32.ofNat (j / 3)) = 0
    · refine st 0 (fun q => absurd c q) ?_
      unfold B_X12_layBest_2
      try dsimp only [LetF]
      refine (if_neg cj).trans (if_pos ?_)
      show J_X12_isHands sm (up2L tm 10 g) (Int32.ofNat j / 3) = 0
      rw [dj]; exact c
    · refine st (J_X12_bonus sm tm (Int32.ofNat j / 3)).toInt64 (fun _ => by rw [dj]) ?_
      unfold B_X12_layBest_2
      try dsimp only [LetF]
      refine (if_neg cj).trans (if_neg ?_)
      show ¬ J_X12_isHands sm (up2L tm 10 g) (Int32.ofNat j / 3) = 0
      rw [dj]; exact c
/-- the best is laid -/
theorem lbe_v {sh sm : Nat → Nat → Int32} {tm : Nat → Nat → Int64} {W P : Nat} (K : HOK sh sm) (hW : (sh 0 0).toInt = (W : Int)) (hP : P ≤ W) : ∃ (V2 B : Nat → Int64) (A : Nat → Int32), J_X12_layBest sm tm (Int32.ofNat P) = (V2, B, A) ∧ ∀ x d, x < 500 → d < 3 → ¬ J_X12_isHands sm tm (Int32.ofNat x) = 0 → V2 (3 * x + d) = (BVL sm tm W (W - P) x d).1 ∧ (P < W → A (3 * x + d) = (BVL sm tm W (W - P) x d).2) := bw_i K hW hP 1500 0 (tm 10) rfl (fun x hx => by omega)
