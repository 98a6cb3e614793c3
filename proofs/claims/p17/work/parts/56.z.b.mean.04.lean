theorem mn_i {sm : Nat → Nat → Int32} {tm : Nat → Nat → Int64} {p0 p2 p3 : Int32} {W P : Nat} (hs : (sm 2) (0 : Int32).toNatClampNeg = Int32.ofNat W) (hW : W ≤ 5) (hP : P ≤ W) (h2 : ∀ x, x = p2.toNatClampNeg → x < 500 ∧ ¬ J_X12_isHands sm tm (Int32.ofNat x) = 0) : ∀ (n j : Nat) (g : Nat → Int64), j + n = 1000 → (∀ x, x < j → x < 500 → ¬ J_X12_isHands sm tm (Int32.ofNat x) = 0 → g x = (J_X12_bonus sm tm (Int32.ofNat x)).toInt64) → ∃ A B : Nat → Int64, LTs default (B_X12_layMean_3 sm tm p0 (Int32.ofNat P) p2 p3) (n + 1) (Int32.ofNat j, g) = (VAL sm tm p0 W (W - P) p3 p2.toNatClampNeg, A, B)
  | 0, j, g, h, hg => by
    have e : j = 1000 := by omega
    subst e
    obtain ⟨n, hn⟩ : ∃ n, W = P + n := ⟨W - P, by omega⟩
    obtain ⟨A, B, r1⟩ := mn_w (sm := sm) (tm := tm) (p0 := p0) (p2 := p2) (p3 := p3) (v15 := Int32.ofNat 1000) (g16 := g) hW hP h2 n 6 0 g (tm 7) (by omega) (by omega) (fun x hx hi => by rw [hg x (by omega) hx hi]; rfl)
    have u : Int32.ofNat W - 1 = Int32.ofNat (P + n) + (-1) := by
      rw [← hn]
      exact Int32.toInt_inj.mp (by rw [i_sub (ofn_t (k := W) (by omega)) (by decide : (1 : Int32).toInt = 1) (by omega) (by omega), i_add (ofn_t (k := W) (by omega)) (by decide : (-1 : Int32).toInt = -1) (by omega) (by omega)]; omega)
    have e2 : B_X12_layMean_3 sm tm p0 (Int32.ofNat P) p2 p3 (Int32.ofNat 1000, g) = LTs (Sum.inl default) (B_X12_layMean_54_2 sm tm p0 (Int32.ofNat P) p2 p3 (Int32.ofNat 1000) g) 6 ((sm 2) (0 : Int32).toNatClampNeg - (1 : Int32), g, tm 7) := rfl
    rw [hs, u] at e2
    exact ⟨A, B, LT_en (e2.trans r1)⟩
  | n + 1, j, g, h, hg => by
    have cj : ¬ (1000 : Int32) ≤ Int32.ofNat j := fun q => by have := f_le (by decide : (1000 : Int32).toInt = 1000) (ofn_u (k := j) (by omega)) q; omega
    have ej : (Int32.ofNat j).toNatClampNeg = j := ofn_cu (by omega)
    have st : ∀ v : Int64, (¬ J_X12_isHands sm tm (Int32.ofNat j) = 0 → v = (J_X12_bonus sm tm (Int32.ofNat j)).toInt64) → B_X12_layMean_3 sm tm p0 (Int32.ofNat P) p2 p3 (Int32.ofNat j, g) = Sum.inl (Int32.ofNat j + 1, vp_updL g (Int32.ofNat j).toNatClampNeg v) → ∃ A B : Nat → Int64, LTs default (B_X12_layMean_3 sm tm p0 (Int32.ofNat P) p2 p3) (n + 1 + 1) (Int32.ofNat j, g) = (VAL sm tm p0 W (W - P) p3 p2.toNatClampNeg, A, B) := fun v hv e2 => by
      rw [ej, ofn_su (by omega)] at e2
      obtain ⟨A, B, r1⟩ := mn_i (p0 := p0) (p3 := p3) hs hW hP h2 n (j + 1) (vp_updL g j v) (by omega) (fun x hx h5 hi => by
        by_cases q : x = j
        · rw [q, updL_s]; exact hv (by rw [← q]; exact hi)
        · rw [updL_n q]; exact hg x (by omega) h5 hi)
      exact ⟨A, B, by rw [LT_st e2]; exact r1⟩
    by_cases c : J_X12_isHands sm tm (Int32.ofNat j) = 0
    · exact st 0 (fun q => absurd c q) ((if_neg cj).trans (if_pos c))
    · exact st _ (fun _ => rfl) ((if_neg cj).trans (if_neg c))
