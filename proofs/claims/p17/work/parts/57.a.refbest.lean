/-! the best, by the reference: all acts of a MONDAY, one behind the other -/
theorem ob_v {sm : Nat → Nat → Int32} {tm : Nat → Nat → Int64} {th : Int32} {o : Nat} (ho : o < 3) : ∀ (n x : Nat) (s : Int64), x + n = 50 → LTs default (B_X12_onwardBest_5 sm tm th (Int32.ofNat o)) (n + 1) (Int32.ofNat x, s) = s + SML (onT sm tm (fun y => tm 10 (3 * y + o)) th) n x
  | 0, x, s, h => by
    have e : x = 50 := by omega
    subst e
    have e2 : B_X12_onwardBest_5 sm tm th (Int32.ofNat o) (Int32.ofNat 50, s) = Sum.inr s := rfl
    rw [LT_en e2]
    exact (Int64.add_zero s).symm
  | n + 1, x, s, h => by
    have cx : ¬ (50 : Int32) ≤ Int32.ofNat x := fun q => by have := f_le (by decide : (50 : Int32).toInt = 50) (ofn_t (k := x) (by omega)) q; omega
    have ix : ((3 : Int32) * Int32.ofNat x + Int32.ofNat o).toNatClampNeg = 3 * x + o := by
      have m : ((3 : Int32) * Int32.ofNat x).toInt = 3 * (x : Int) := i_mul (by decide) (ofn_t (by omega)) (by omega) (by omega)
      exact wn_k (by rw [i_add m (ofn_t (by omega)) (by omega) (by omega)]; omega)
    have e2 : B_X12_onwardBest_5 sm tm th (Int32.ofNat o) (Int32.ofNat x, s) = Sum.inl (Int32.ofNat x + 1, s + onT sm tm (fun y => tm 10 (3 * y + o)) th x) := by
      unfold onT
      by_cases q : J_X12_isHands sm tm (Int32.ofNat x) = 0
      · have z : B_X12_onwardBest_5 sm tm th (Int32.ofNat o) (Int32.ofNat x, s) = Sum.inl (Int32.ofNat x + 1, s + 0) := by
          unfold B_X12_onwardBest_5
          try dsimp only [LetF]
          exact (if_neg cx).trans (if_pos q)
        rw [z, if_pos q]
      · have z : B_X12_onwardBest_5 sm tm th (Int32.ofNat o) (Int32.ofNat x, s) = Sum.inl (Int32.ofNat x + 1, s + (J_X12_sundayOf sm tm th (Int32.ofNat x)).toInt64 * tm 10 ((3 : Int32) * Int32.ofNat x + Int32.ofNat o).toNatClampNeg) := by
          unfold B_X12_onwardBest_5
          try dsimp only [LetF]
          exact (if_neg cx).trans (if_neg q)
        rw [z, if_neg q, ix]
    rw [LT_st e2, ofn_s (by omega), ob_v ho n (x + 1) _ (by omega), sml_s, Int64.add_assoc]
theorem onb_v {sm : Nat → Nat → Int32} {tm : Nat → Nat → Int64} {th : Int32} {o : Nat} (ho : o < 3) : J_X12_onwardBest sm tm th (Int32.ofNat o) = SML (onT sm tm (fun y => tm 10 (3 * y + o)) th) 50 0 := by
  have e : J_X12_onwardBest sm tm th (Int32.ofNat o) = 0 + SML (onT sm tm (fun y => tm 10 (3 * y + o)) th) 50 0 := ob_v ho 50 0 0 rfl
  rw [e, Int64.zero_add]
/-- the acts by number -/
def aK (k : Nat) : Nat := 1000 * (k / 30) + 100 * (k / 6 % 5) + 10 * (k / 3 % 2) + k % 3
def AK (k : Nat) : Int32 := Int32.ofNat (aK k)
def ACT (v : Int32) : Int32 := (((((1000 : Int32) * (v / (30 : Int32))) + ((100 : Int32) * ((v / (6 : Int32)) - (v / (6 : Int32)) / (5 : Int32) * (5 : Int32)))) + ((10 : Int32) * ((v / (3 : Int32)) - (v / (3 : Int32)) / (2 : Int32) * (2 : Int32)))) + (v - v / (3 : Int32) * (3 : Int32)))
theorem act_dec : ∀ k : Fin 150, ACT (Int32.ofNat k.val) = AK k.val ∧ (ACT (Int32.ofNat k.val) - ACT (Int32.ofNat k.val) / (10 : Int32) * (10 : Int32)) = Int32.ofNat (k.val % 3) ∧ 0 ≤ (AK k.val).toInt ∧ J_X0_letGo (AK k.val) = Int32.ofNat (k.val / 30) ∧ J_X0_taken (AK k.val) = Int32.ofNat (k.val / 6 % 5) ∧ J_X0_taught (AK k.val) = Int32.ofNat (k.val / 3 % 2) ∧ J_X0_ordered (AK k.val) = Int32.ofNat (k.val % 3) := by decide +kernel
/-- the first of the least -/
def FBs (ok : Nat → Bool) (v : Nat → Int64) (ac : Nat → Int32) : Nat → Nat → Int64 × Int32 → Int64 × Int32
  | 0, _, s => s
  | n + 1, k, s => FBs ok v ac n (k + 1) (if ok k = true then (if lg_cmp s.1 0 < 0 then (v k, ac k) else if 0 ≤ lg_cmp (v k) s.1 then s else (v k, ac k)) else s)
def bOk (sm : Nat → Nat → Int32) (tm : Nat → Nat → Int64) (w : Int32) (h : Nat) (k : Nat) : Bool := decide (¬ J_X12_after sm tm w (Int32.ofNat h) (AK k) = -9)
def bV (sm : Nat → Nat → Int32) (tm : Nat → Nat → Int64) (w : Int32) (unit : Int64) (V : Nat → Int64) (h c k : Nat) : Int64 := (J_X12_costOf sm tm w (J_X12_after sm tm w (Int32.ofNat h) (AK k)) (Int32.ofNat c) (AK k)).toInt64 * unit + SML (onT sm tm (fun y => V (3 * y + k % 3)) (J_X12_after sm tm w (Int32.ofNat h) (AK k))) 50 0
theorem ix3 {h c : Nat} (hh : h < 500) (hc : c < 3) : ((3 : Int32) * Int32.ofNat h + Int32.ofNat c).toNatClampNeg = 3 * h + c := by
  have m : ((3 : Int32) * Int32.ofNat h).toInt = 3 * (h : Int) := i_mul (by decide) (ofn_t (by omega)) (by omega) (by omega)
  exact wn_k (by rw [i_add m (ofn_t (by omega)) (by omega) (by omega)]; omega)
/-- one ACT, by who is COMING -/
theorem lb_c {sm : Nat → Nat → Int32} {tm : Nat → Nat → Int64} {p0 v6 y78 : Int32} {p2 y85 : Int64} {h k : Nat} {g7 g59 : Nat → Int64} {g60 : Nat → Int32} (hh : h < 500) (hk : k < 150) : ∀ (n c : Nat) (g : Nat → Int64) (a : Nat → Int32), c + n = 3 → ∃ (G : Nat → Int64) (A : Nat → Int32), LTs (Sum.inl default) (B_X12_layBestOf_110_3 sm tm p0 (Int32.ofNat h) p2 v6 g7 (Int32.ofNat k) g59 g60 y78 y85) (n + 1) (Int32.ofNat c, g, a) = Sum.inl (Int32.ofNat (k + 1), G, A) ∧ (∀ x, (∀ d, d < 3 → ¬ x = 3 * h + d) → G x = g x ∧ A x = a x) ∧ (∀ d, d < c → G (3 * h + d) = g (3 * h + d) ∧ A (3 * h + d) = a (3 * h + d)) ∧ ∀ d, c ≤ d → d < 3 → (G (3 * h + d), A (3 * h + d)) = (if lg_cmp (g (3 * h + d)) 0 < 0 then ((J_X12_costOf sm tm p0 y78 (Int32.ofNat d) (AK k)).toInt64 * p2 + y85, AK k) else if 0 ≤ lg_cmp ((J_X12_costOf sm tm p0 y78 (Int32.ofNat d) (AK k)).toInt64 * p2 + y85) (g (3 * h + d)) then (g (3 * h + d), a (3 * h + d)) else ((J_X12_costOf sm tm p0 y78 (Int32.ofNat d) (AK k)).toInt64 * p2 + y85, AK k))
  | 0, c, g, a, e0 => by
    have e : c = 3 := by omega
    subst e
    have e2 : B_X12_layBestOf_110_3 sm tm p0 (Int32.ofNat h) p2 v6 g7 (Int32.ofNat k) g59 g60 y78 y85 (Int32.ofNat 3, g, a) = Sum.inr (Sum.inl (Int32.ofNat k + 1, g, a)) := rfl
    refine ⟨g, a, by rw [LT_en e2, ofn_s (by omega)], fun x _ => ⟨rfl, rfl⟩, fun d _ => ⟨rfl, rfl⟩, fun d h1 h2 => by omega⟩
  | n + 1, c, g, a, e0 => by
    have cc : ¬ (3 : Int32) ≤ Int32.ofNat c := fun q => by have := f_le (by decide : (3 : Int32).toInt = 3) (ofn_t (k := c) (by omega)) q; omega
    have ic := ix3 (h := h) (c := c) hh (by omega)
    have ea : ACT (Int32.ofNat k) = AK k := (act_dec ⟨k, hk⟩).1
    have ct : ∀ t2 : Nat → Nat → Int64, ∀ s2 : Nat → Int32, J_X12_costOf (up2 sm 12 s2) t2 p0 y78 (Int32.ofNat c) (AK k) = J_X12_costOf sm tm p0 y78 (Int32.ofNat c) (AK k) := fun t2 s2 => rfl
    obtain ⟨r, hr⟩ : ∃ r : Int64 × Int32, r = (if lg_cmp (g (3 * h + c)) 0 < 0 then ((J_X12_costOf sm tm p0 y78 (Int32.ofNat c) (AK k)).toInt64 * p2 + y85, AK k) else if 0 ≤ lg_cmp ((J_X12_costOf sm tm p0 y78 (Int32.ofNat c) (AK k)).toInt64 * p2 + y85) (g (3 * h + c)) then (g (3 * h + c), a (3 * h + c)) else ((J_X12_costOf sm tm p0 y78 (Int32.ofNat c) (AK k)).toInt64 * p2 + y85, AK k)) := ⟨_, rfl⟩
    have e2 : ∃ (g2 : Nat → Int64) (a2 : Nat → Int32), B_X12_layBestOf_110_3 sm tm p0 (Int32.ofNat h) p2 v6 g7 (Int32.ofNat k) g59 g60 y78 y85 (Int32.ofNat c, g, a) = Sum.inl (Int32.ofNat c + 1, g2, a2) ∧ (∀ x, ¬ x = 3 * h + c → g2 x = g x ∧ a2 x = a x) ∧ (g2 (3 * h + c), a2 (3 * h + c)) = r := by
      have u : ∀ x, ¬ x = 3 * h + c → vp_updL g (3 * h + c) ((J_X12_costOf sm tm p0 y78 (Int32.ofNat c) (AK k)).toInt64 * p2 + y85) x = g x ∧ upd a (3 * h + c) (AK k) x = a x := fun x hx => ⟨updL_n hx, pk_un hx⟩
      have w : (vp_updL g (3 * h + c) ((J_X12_costOf sm tm p0 y78 (Int32.ofNat c) (AK k)).toInt64 * p2 + y85) (3 * h + c), upd a (3 * h + c) (AK k) (3 * h + c)) = ((J_X12_costOf sm tm p0 y78 (Int32.ofNat c) (AK k)).toInt64 * p2 + y85, AK k) := by rw [updL_s, pk_us]
      by_cases q1 : lg_cmp (g (3 * h + c)) 0 < 0
      · refine ⟨_, _, ?_, u, by rw [w, hr, if_pos q1]⟩
        unfold B_X12_layBestOf_110_3
        dsimp only [LetF]
        rw [if_neg cc, ic, if_pos q1]
        show Sum.inl (Int32.ofNat c + 1, vp_updL g (3 * h + c) ((J_X12_costOf (up2 sm 12 a) (up2L tm 11 g) p0 y78 (Int32.ofNat c) (ACT (Int32.ofNat k))).toInt64 * p2 + y85), upd a (3 * h + c) (ACT (Int32.ofNat k))) = _
        rw [ea, ct]
      · by_cases q2 : 0 ≤ lg_cmp ((J_X12_costOf sm tm p0 y78 (Int32.ofNat c) (AK k)).toInt64 * p2 + y85) (g (3 * h + c))
        · refine ⟨g, a, ?_, fun x _ => ⟨rfl, rfl⟩, by rw [hr, if_neg q1, if_pos q2]⟩
          unfold B_X12_layBestOf_110_3
          dsimp only [LetF]
          rw [if_neg cc, ic, if_neg q1]
          refine if_pos ?_
          show 0 ≤ lg_cmp ((J_X12_costOf (up2 sm 12 a) (up2L tm 11 g) p0 y78 (Int32.ofNat c) (ACT (Int32.ofNat k))).toInt64 * p2 + y85) (g (3 * h + c))
          rw [ea, ct]; exact q2
        · refine ⟨_, _, ?_, u, by rw [w, hr, if_neg q1, if_neg q2]⟩
          unfold B_X12_layBestOf_110_3
          dsimp only [LetF]
          rw [if_neg cc, ic, if_neg q1]
          have q3 : ¬ 0 ≤ lg_cmp ((J_X12_costOf (up2 sm 12 a) (up2L tm 11 g) p0 y78 (Int32.ofNat c) (ACT (Int32.ofNat k))).toInt64 * p2 + y85) (g (3 * h + c)) := by rw [ea, ct]; exact q2
          refine (if_neg q3).trans ?_
          show Sum.inl (Int32.ofNat c + 1, vp_updL g (3 * h + c) ((J_X12_costOf (up2 sm 12 a) (up2L tm 11 g) p0 y78 (Int32.ofNat c) (ACT (Int32.ofNat k))).toInt64 * p2 + y85), upd a (3 * h + c) (ACT (Int32.ofNat k))) = _
          rw [ea, ct]
    obtain ⟨g2, a2, b1, b2, b3⟩ := e2
    obtain ⟨G, A, h1, h2, h3, h4⟩ := lb_c (sm := sm) (tm := tm) (p0 := p0) (v6 := v6) (y78 := y78) (p2 := p2) (y85 := y85) (g7 := g7) (g59 := g59) (g60 := g60) hh hk n (c + 1) g2 a2 (by omega)
    refine ⟨G, A, by rw [LT_st b1, ofn_s (by omega), h1], fun x hx => ?_, fun d hd => ?_, fun d q1 q2 => ?_⟩
    · obtain ⟨z1, z2⟩ := h2 x hx
      obtain ⟨z3, z4⟩ := b2 x (hx c (by omega))
      exact ⟨z1.trans z3, z2.trans z4⟩
    · obtain ⟨z1, z2⟩ := h3 d (by omega)
      obtain ⟨z3, z4⟩ := b2 (3 * h + d) (by omega)
      exact ⟨z1.trans z3, z2.trans z4⟩
    · by_cases q : d = c
      · subst q
        obtain ⟨z1, z2⟩ := h3 d (by omega)
        rw [z1, z2, b3, hr]
      · obtain ⟨z3, z4⟩ := b2 (3 * h + d) (by omega)
        rw [h4 d (by omega) q2, z3, z4]
theorem pk_pair {α β : Type} {a : α} {b : β} {p : α × β} (h : (a, b) = p) : a = p.1 ∧ b = p.2 := by subst h; exact ⟨rfl, rfl⟩
/-- all ACTS from some hands -/
theorem lb_k {sm : Nat → Nat → Int32} {tm : Nat → Nat → Int64} {p0 v6 : Int32} {p2 : Int64} {h : Nat} {g7 : Nat → Int64} (hh : h < 500) : ∀ (n k : Nat) (g : Nat → Int64) (a : Nat → Int32), k + n = 150 → ∃ (G : Nat → Int64) (A : Nat → Int32), LTs (Sum.inl default) (B_X12_layBestOf_32_2 sm tm p0 (Int32.ofNat h) p2 v6 g7) (n + 1) (Int32.ofNat k, g, a) = Sum.inr (G, A) ∧ (∀ x, (∀ d, d < 3 → ¬ x = 3 * h + d) → G x = g x ∧ A x = a x) ∧ ∀ d, d < 3 → (G (3 * h + d), A (3 * h + d)) = FBs (bOk sm tm p0 h) (bV sm tm p0 p2 (tm 10) h d) AK n k (g (3 * h + d), a (3 * h + d))
  | 0, k, g, a, e0 => by
    have e : k = 150 := by omega
    subst e
    have e2 : B_X12_layBestOf_32_2 sm tm p0 (Int32.ofNat h) p2 v6 g7 (Int32.ofNat 150, g, a) = Sum.inr (Sum.inr (g, a)) := rfl
    exact ⟨g, a, LT_en e2, fun x _ => ⟨rfl, rfl⟩, fun d _ => rfl⟩
  | n + 1, k, g, a, e0 => by
    have ck : ¬ (150 : Int32) ≤ Int32.ofNat k := fun q => by have := f_le (by decide : (150 : Int32).toInt = 150) (ofn_t (k := k) (by omega)) q; omega
    obtain ⟨d1, d2, d3, _, _, _, _⟩ := act_dec ⟨k, by omega⟩
    have d1 : ACT (Int32.ofNat k) = AK k := d1
    have d2 : ACT (Int32.ofNat k) - ACT (Int32.ofNat k) / (10 : Int32) * (10 : Int32) = Int32.ofNat (k % 3) := d2
    have at2 : ∀ t2 : Nat → Nat → Int64, ∀ s2 : Nat → Int32, J_X12_after (up2 sm 12 s2) t2 p0 (Int32.ofNat h) (AK k) = J_X12_after sm tm p0 (Int32.ofNat h) (AK k) := fun t2 s2 => rfl
    by_cases q : J_X12_after sm tm p0 (Int32.ofNat h) (AK k) = -9
    · have ok : bOk sm tm p0 h k = false := by unfold bOk; rw [q]; rfl
      have e2 : B_X12_layBestOf_32_2 sm tm p0 (Int32.ofNat h) p2 v6 g7 (Int32.ofNat k, g, a) = Sum.inl (Int32.ofNat k + 1, g, a) := by
        unfold B_X12_layBestOf_32_2
        dsimp only [LetF]
        rw [if_neg ck]
        refine if_pos ?_
        show J_X12_after (up2 sm 12 a) (up2L tm 11 g) p0 (Int32.ofNat h) (ACT (Int32.ofNat k)) = -9
        rw [d1, at2]; exact q
      obtain ⟨G, A, h1, h2, h3⟩ := lb_k (sm := sm) (tm := tm) (p0 := p0) (v6 := v6) (p2 := p2) (g7 := g7) hh n (k + 1) g a (by omega)
      refine ⟨G, A, by rw [LT_st e2, ofn_s (by omega), h1], h2, fun d hd => ?_⟩
      rw [h3 d hd]
      show _ = FBs _ _ _ n (k + 1) (if bOk sm tm p0 h k = true then _ else _)
      rw [ok, if_neg (by decide)]
    · have ok : bOk sm tm p0 h k = true := by unfold bOk; exact decide_eq_true q
      have ob : ∀ s2 : Nat → Int32, J_X12_onwardBest (up2 sm 12 s2) (up2L tm 11 g) (J_X12_after sm tm p0 (Int32.ofNat h) (AK k)) (Int32.ofNat (k % 3)) = SML (onT sm tm (fun y => tm 10 (3 * y + k % 3)) (J_X12_after sm tm p0 (Int32.ofNat h) (AK k))) 50 0 := fun s2 => onb_v (sm := up2 sm 12 s2) (tm := up2L tm 11 g) (by omega)
      obtain ⟨G1, A1, b1, b2, b3, b4⟩ := lb_c (sm := sm) (tm := tm) (p0 := p0) (v6 := v6) (y78 := J_X12_after sm tm p0 (Int32.ofNat h) (AK k)) (p2 := p2) (y85 := SML (onT sm tm (fun y => tm 10 (3 * y + k % 3)) (J_X12_after sm tm p0 (Int32.ofNat h) (AK k))) 50 0) (h := h) (k := k) (g7 := g7) (g59 := g) (g60 := a) hh (by omega) 3 0 g a rfl
      have e2 : B_X12_layBestOf_32_2 sm tm p0 (Int32.ofNat h) p2 v6 g7 (Int32.ofNat k, g, a) = Sum.inl (Int32.ofNat (k + 1), G1, A1) := by
        unfold B_X12_layBestOf_32_2
        dsimp only [LetF]
        rw [if_neg ck]
        have q3 : ¬ J_X12_after (up2 sm 12 a) (up2L tm 11 g) p0 (Int32.ofNat h) (ACT (Int32.ofNat k)) = -9 := by rw [d1, at2]; exact q
        refine (if_neg q3).trans ?_
        show LTs (Sum.inl default) (B_X12_layBestOf_110_3 sm tm p0 (Int32.ofNat h) p2 v6 g7 (Int32.ofNat k) g a (J_X12_after (up2 sm 12 a) (up2L tm 11 g) p0 (Int32.ofNat h) (ACT (Int32.ofNat k))) (J_X12_onwardBest (up2 sm 12 a) (up2L tm 11 g) (J_X12_after (up2 sm 12 a) (up2L tm 11 g) p0 (Int32.ofNat h) (ACT (Int32.ofNat k))) (ACT (Int32.ofNat k) - ACT (Int32.ofNat k) / (10 : Int32) * (10 : Int32)))) 4 ((0 : Int32), g, a) = _
        rw [d2, d1, at2, ob]
        exact b1
      obtain ⟨G, A, h1, h2, h3⟩ := lb_k (sm := sm) (tm := tm) (p0 := p0) (v6 := v6) (p2 := p2) (g7 := g7) hh n (k + 1) G1 A1 (by omega)
      refine ⟨G, A, by rw [LT_st e2, h1], fun x hx => ?_, fun d hd => ?_⟩
      · obtain ⟨z1, z2⟩ := h2 x hx
        obtain ⟨z3, z4⟩ := b2 x hx
        exact ⟨z1.trans z3, z2.trans z4⟩
      · rw [h3 d hd, b4 d (Nat.zero_le d) hd]
        show FBs _ _ _ n (k + 1) _ = FBs _ _ _ n (k + 1) (if bOk sm tm p0 h k = true then _ else _)
        rw [ok, if_pos rfl]
        rfl
theorem lb_0 {sm : Nat → Nat → Int32} {tm : Nat → Nat → Int64} {p0 : Int32} {p2 : Int64} {h : Nat} (hh : h < 500) : ∀ (n c : Nat) (g : Nat → Int64), c + n = 3 → (∀ d, d < c → g (3 * h + d) = -1) → (∀ x, (∀ d, d < 3 → ¬ x = 3 * h + d) → g x = tm 11 x) → ∃ (G : Nat → Int64) (A : Nat → Int32), LTs default (B_X12_layBestOf_3 sm tm p0 (Int32.ofNat h) p2) (n + 1) (Int32.ofNat c, g) = (G, A) ∧ (∀ x, (∀ d, d < 3 → ¬ x = 3 * h + d) → G x = tm 11 x ∧ A x = sm 12 x) ∧ ∀ d, d < 3 → (G (3 * h + d), A (3 * h + d)) = FBs (bOk sm tm p0 h) (bV sm tm p0 p2 (tm 10) h d) AK 150 0 (-1, sm 12 (3 * h + d))
  | 0, c, g, e0, hg, hx => by
    have e : c = 3 := by omega
    subst e
    obtain ⟨G, A, h1, h2, h3⟩ := lb_k (sm := sm) (tm := tm) (p0 := p0) (v6 := Int32.ofNat 3) (p2 := p2) (h := h) (g7 := g) hh 150 0 g (sm 12) rfl
    have e1 : ∀ v : Int32, 3 ≤ v → B_X12_layBestOf_3 sm tm p0 (Int32.ofNat h) p2 (v, g) = LTs (Sum.inl default) (B_X12_layBestOf_32_2 sm tm p0 (Int32.ofNat h) p2 v g) 151 ((0 : Int32), g, (sm 12)) := fun v hv => if_pos hv
    have e2 := (e1 (Int32.ofNat 3) (by decide)).trans h1
    refine ⟨G, A, LT_en e2, fun x q => ?_, fun d hd => ?_⟩
    · obtain ⟨z1, z2⟩ := h2 x q
      exact ⟨z1.trans (hx x q), z2⟩
    · rw [h3 d hd, hg d hd]
  | n + 1, c, g, e0, hg, hx => by
    have cc : ¬ (3 : Int32) ≤ Int32.ofNat c := fun q => by have := f_le (by decide : (3 : Int32).toInt = 3) (ofn_t (k := c) (by omega)) q; omega
    have e2 : B_X12_layBestOf_3 sm tm p0 (Int32.ofNat h) p2 (Int32.ofNat c, g) = Sum.inl (Int32.ofNat c + 1, vp_updL g ((3 : Int32) * Int32.ofNat h + Int32.ofNat c).toNatClampNeg (-1)) := by
      unfold B_X12_layBestOf_3
      try dsimp only [LetF]
      exact if_neg cc
    rw [ix3 hh (by omega), ofn_s (by omega)] at e2
    obtain ⟨G, A, h1, h2, h3⟩ := lb_0 (sm := sm) (tm := tm) (p0 := p0) (p2 := p2) hh n (c + 1) (vp_updL g (3 * h + c) (-1)) (by omega) (fun d hd => by
      by_cases q : d = c
      · rw [q, updL_s]
      · rw [updL_n (by omega)]; exact hg d (by omega)) (fun x q => by rw [updL_n (q c (by omega))]; exact hx x q)
    exact ⟨G, A, by rw [LT_st e2]; exact h1, h2, h3⟩
/-- from some hands: the best, by who is COMING -/
theorem lbo_v {sm : Nat → Nat → Int32} {tm : Nat → Nat → Int64} {p0 : Int32} {p2 : Int64} {h : Nat} (hh : h < 500) : ∃ (G : Nat → Int64) (A : Nat → Int32), J_X12_layBestOf sm tm p0 (Int32.ofNat h) p2 = (G, A) ∧ (∀ x, (∀ d, d < 3 → ¬ x = 3 * h + d) → G x = tm 11 x ∧ A x = sm 12 x) ∧ ∀ d, d < 3 → (G (3 * h + d), A (3 * h + d)) = FBs (bOk sm tm p0 h) (bV sm tm p0 p2 (tm 10) h d) AK 150 0 (-1, sm 12 (3 * h + d)) := lb_0 hh 3 0 (tm 11) rfl (fun d hd => by omega) (fun x _ => rfl)
