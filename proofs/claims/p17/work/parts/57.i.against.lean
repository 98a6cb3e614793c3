/-! whether a WEEK goes by a level: alike -/
def REFT (o a b : Int32) : Int32 := if o ≤ a then (if b ≤ o then (if b ≤ 0 then 0 else b) else (if o ≤ 0 then 0 else o)) else (if b ≤ a then (if b ≤ 0 then 0 else b) else (if a ≤ 0 then 0 else a))
theorem reft_v {o a b : Int32} (ho : 0 ≤ o.toInt ∧ o.toInt ≤ 4) (hb : 0 ≤ b.toInt ∧ b.toInt ≤ 4) : REFT o a b = (if (if 0 < a then a else 0) < (if b < o then b else o) then (if 0 < a then a else 0) else (if b < o then b else o)) := by
  have le : ∀ x y : Int32, x ≤ y ↔ x.toInt ≤ y.toInt := fun x y => Int32.le_iff_toInt_le
  have lt : ∀ x y : Int32, x < y ↔ x.toInt < y.toInt := fun x y => Int32.lt_iff_toInt_lt
  have eqq : ∀ x y : Int32, x.toInt = y.toInt → x = y := fun x y h => Int32.toInt_inj.mp h
  have z0 : (0 : Int32).toInt = 0 := by decide
  unfold REFT
  simp only [le, lt]
  (repeat' split) <;> first | (exfalso; omega) | rfl | exact eqq _ _ (by omega)
theorem ag_st {sh sm : Nat → Nat → Int32} {tm : Nat → Nat → Int64} {w l : Int32} {h : Nat} {s2 : Nat → Int32} {t2 : Nat → Nat → Int64} (K : HOK sh sm) (hw : 0 ≤ w.toInt ∧ w.toInt ≤ 4) (hh : h < 500) (hi : ¬ J_X12_isHands sm tm (Int32.ofNat h) = 0) : B_X12_againstOf_2 (up2 sm 12 s2) t2 w l (Int32.ofNat h) = (if J_X0_taken (s2 (3 * h)) = J_X4_takenByLevel sh w (Int32.ofNat h) l then Sum.inl (Int32.ofNat (h + 1)) else Sum.inr (Int32.ofNat h)) := by
  have ch : ¬ (500 : Int32) ≤ Int32.ofNat h := fun q => by have := f_le (by decide : (500 : Int32).toInt = 500) (ofn_t (k := h) (by omega)) q; omega
  have hi2 : ¬ J_X12_isHands (up2 sm 12 s2) t2 (Int32.ofNat h) = 0 := hi
  have ix : ((3 : Int32) * Int32.ofNat h).toNatClampNeg = 3 * h := by
    have m : ((3 : Int32) * Int32.ofNat h).toInt = 3 * (h : Int) := i_mul (by decide) (ofn_t (by omega)) (by omega) (by omega)
    exact wn_k (by rw [m]; omega)
  have e1 : (sm 2) (1 : Int32).toNatClampNeg = sh 0 1 := by rw [n1_]; exact K.1.2.1
  have eo := vO K (p := w) hw
  obtain ⟨k1, k2⟩ := h500 K hh hi
  have T0 := tot_0 (x := Int32.ofNat h) k1.1
  have tt : (J_X3_total (Int32.ofNat h)).toInt = tot (Int32.ofNat h) := tot_t k1.1
  have hk := K.2.2.2.1
  have rm : (sh 0 1 - J_X3_total (Int32.ofNat h)).toInt = (sh 0 1).toInt - tot (Int32.ofNat h) := i_sub rfl tt (by omega) (by omega)
  have tk : J_X4_takenByLevel sh w (Int32.ofNat h) l = REFT (sh 2 w.toNatClampNeg) (l - J_X3_total (Int32.ofNat h)) (sh 0 1 - J_X3_total (Int32.ofNat h)) := (reft_v (K.2.2.2.2.2.1 _) (by rw [rm]; omega)).symm
  have al : J_X12_all (Int32.ofNat h) = J_X3_total (Int32.ofNat h) := rfl
  rw [tk]
  unfold B_X12_againstOf_2
  dsimp only [LetF]
  rw [if_neg ch, if_neg hi2, ix, al]
  show (if (sm 2) ((15 : Int32) + w).toNatClampNeg ≤ (l - J_X3_total (Int32.ofNat h)) then _ else _) = _
  have e1' : (up2 sm 12 s2) 2 (1 : Int32).toNatClampNeg = sh 0 1 := e1
  have eo' : (up2 sm 12 s2) 2 ((15 : Int32) + w).toNatClampNeg = sh 2 w.toNatClampNeg := eo
  rw [e1', eo', eo]
  have ea : (up2 sm 12 s2) 12 (3 * h) = s2 (3 * h) := rfl
  rw [ea]
  unfold REFT
  show _ = (if (s2 (3 * h) / 100) - (s2 (3 * h) / 100) / 10 * 10 = _ then _ else _)
  rw [ofn_s (by omega)]
  generalize (s2 (3 * h) / 100) - (s2 (3 * h) / 100) / 10 * 10 = X
  generalize l - J_X3_total (Int32.ofNat h) = a
  generalize sh 0 1 - J_X3_total (Int32.ofNat h) = b
  generalize sh 2 w.toNatClampNeg = o
  by_cases c1 : o ≤ a
  · rw [if_pos c1, if_pos c1]
    by_cases c2 : b ≤ o
    · rw [if_pos c2, if_pos c2]
      by_cases c3 : b ≤ 0
      · rw [if_pos c3, if_pos c3]
      · rw [if_neg c3, if_neg c3]
    · rw [if_neg c2, if_neg c2]
      by_cases c3 : o ≤ 0
      · rw [if_pos c3, if_pos c3]
      · rw [if_neg c3, if_neg c3]
  · rw [if_neg c1, if_neg c1]
    by_cases c2 : b ≤ a
    · rw [if_pos c2, if_pos c2]
      by_cases c3 : b ≤ 0
      · rw [if_pos c3, if_pos c3]
      · rw [if_neg c3, if_neg c3]
    · rw [if_neg c2, if_neg c2]
      by_cases c3 : a ≤ 0
      · rw [if_pos c3, if_pos c3]
      · rw [if_neg c3, if_neg c3]
theorem nAL_le : ∀ k : Fin 35, nAL k.val ≤ 400 := by decide
theorem nAL_mo : ∀ a b : Fin 35, a.val < b.val → nAL a.val < nAL b.val := by decide
/-- hands with which it does not go by that level -/
def BAD (sh sm : Nat → Nat → Int32) (tm : Nat → Nat → Int64) (w l : Int32) (W n h : Nat) : Prop := ¬ J_X12_isHands sm tm (Int32.ofNat h) = 0 ∧ ¬ J_X0_taken (BVL sm tm W n h 0).2 = J_X4_takenByLevel sh w (Int32.ofNat h) l
theorem ag_l {sh sm : Nat → Nat → Int32} {tm : Nat → Nat → Int64} {w l : Int32} {W n : Nat} {s2 : Nat → Int32} {t2 : Nat → Nat → Int64} (K : HOK sh sm) (hw : 0 ≤ w.toInt ∧ w.toInt ≤ 4) (hs : ∀ x, x < 500 → ¬ J_X12_isHands sm tm (Int32.ofNat x) = 0 → s2 (3 * x) = (BVL sm tm W n x 0).2) : ∀ (m h : Nat), h + m = 500 → (∀ x, x < h → ¬ BAD sh sm tm w l W n x) → (LTs default (B_X12_againstOf_2 (up2 sm 12 s2) t2 w l) (m + 1) (Int32.ofNat h) = -9 ∧ ∀ x, x < 500 → ¬ BAD sh sm tm w l W n x) ∨ ∃ b, b < 500 ∧ LTs default (B_X12_againstOf_2 (up2 sm 12 s2) t2 w l) (m + 1) (Int32.ofNat h) = Int32.ofNat b ∧ BAD sh sm tm w l W n b ∧ ∀ x, x < b → ¬ BAD sh sm tm w l W n x
  | 0, h, e0, hb => by
    have e : h = 500 := by omega
    subst e
    have e1 : ∀ v : Int32, 500 ≤ v → B_X12_againstOf_2 (up2 sm 12 s2) t2 w l v = Sum.inr (-9) := fun v hv => if_pos hv
    exact Or.inl ⟨LT_en (e1 (Int32.ofNat 500) (by decide)), hb⟩
  | m + 1, h, e0, hb => by
    have ch : ¬ (500 : Int32) ≤ Int32.ofNat h := fun q => by have := f_le (by decide : (500 : Int32).toInt = 500) (ofn_t (k := h) (by omega)) q; omega
    by_cases hi : J_X12_isHands sm tm (Int32.ofNat h) = 0
    · have e2 : B_X12_againstOf_2 (up2 sm 12 s2) t2 w l (Int32.ofNat h) = Sum.inl (Int32.ofNat h + 1) := by
        unfold B_X12_againstOf_2
        try dsimp only [LetF]
        exact (if_neg ch).trans (if_pos hi)
      rw [LT_st e2, ofn_s (by omega)]
      refine ag_l K hw hs m (h + 1) (by omega) (fun x hx => ?_)
      by_cases q : x = h
      · rw [q]; exact fun z => z.1 hi
      · exact hb x (by omega)
    · have e2 := ag_st (l := l) (s2 := s2) (t2 := t2) K hw (show h < 500 by omega) hi
      rw [hs h (by omega) hi] at e2
      by_cases q : J_X0_taken (BVL sm tm W n h 0).2 = J_X4_takenByLevel sh w (Int32.ofNat h) l
      · rw [if_pos q] at e2
        rw [LT_st e2]
        refine ag_l K hw hs m (h + 1) (by omega) (fun x hx => ?_)
        by_cases z : x = h
        · rw [z]; exact fun y => y.2 q
        · exact hb x (by omega)
      · rw [if_neg q] at e2
        exact Or.inr ⟨h, by omega, LT_en e2, ⟨hi, q⟩, hb⟩
theorem fa_l {sx sh sm spl : Nat → Nat → Int32} {tpl tm : Nat → Nat → Int64} {l : Int32} {Q W MC : Nat} (K : HOK sh sm) (hQ : Q < W) (h5 : W ≤ 5) (y3 : PLT sh sm tm W MC 0 (tpl 1) (spl 2)) : ∀ (m κ : Nat), κ + m = 35 → (∀ x, x < κ → ¬ BAD sh sm tm (Int32.ofNat Q) l W (W - Q) (nAL x)) → (LTs default (B_X11_firstAgainst_11 sx sh spl tpl (Int32.ofNat Q) l) (m + 1) (Int32.ofNat κ) = -9 ∧ ∀ x, x < 35 → ¬ BAD sh sm tm (Int32.ofNat Q) l W (W - Q) (nAL x)) ∨ ∃ b, b < 35 ∧ LTs default (B_X11_firstAgainst_11 sx sh spl tpl (Int32.ofNat Q) l) (m + 1) (Int32.ofNat κ) = Int32.ofNat (nAL b) ∧ BAD sh sm tm (Int32.ofNat Q) l W (W - Q) (nAL b) ∧ ∀ x, x < b → ¬ BAD sh sm tm (Int32.ofNat Q) l W (W - Q) (nAL x)
  | 0, κ, e0, hb => by
    have e : κ = 35 := by omega
    subst e
    have e1 : ∀ v : Int32, 35 ≤ v → B_X11_firstAgainst_11 sx sh spl tpl (Int32.ofNat Q) l v = Sum.inr (-9) := fun v hv => if_pos hv
    exact Or.inl ⟨LT_en (e1 (Int32.ofNat 35) (by decide)), hb⟩
  | m + 1, κ, e0, hb => by
    have ck : ¬ (35 : Int32) ≤ Int32.ofNat κ := fun q => by have := f_le (by decide : (35 : Int32).toInt = 35) (ofn_t (k := κ) (by omega)) q; omega
    have ek : (Int32.ofNat κ).toNatClampNeg = κ := ofn_c (by omega)
    have e3 : zALL.getD κ 0 = Int32.ofNat (nAL κ) := (ak (k := κ) (by omega)).2.2.1
    have ih : J_X11_isHands sx (SHX sh) (zALL.getD κ 0) = J_X12_isHands sm tm (Int32.ofNat (nAL κ)) := by rw [← e3]; exact ih_eq (hok_x K)
    by_cases hi : J_X12_isHands sm tm (Int32.ofNat (nAL κ)) = 0
    · have e2 : B_X11_firstAgainst_11 sx sh spl tpl (Int32.ofNat Q) l (Int32.ofNat κ) = Sum.inl (Int32.ofNat κ + 1) := by
        unfold B_X11_firstAgainst_11
        try dsimp only [LetF]
        exact (if_neg ck).trans (if_pos (show J_X11_isHands sx (SHX sh) (zALL.getD (Int32.ofNat κ).toNatClampNeg 0) = 0 by rw [ek, ih]; exact hi))
      rw [LT_st e2, ofn_s (by omega)]
      refine fa_l K hQ h5 y3 m (κ + 1) (by omega) (fun x hx => ?_)
      by_cases q : x = κ
      · rw [q]; exact fun z => z.1 hi
      · exact hb x (by omega)
    · have nl : nAL κ < 500 := Nat.lt_of_le_of_lt (nAL_le ⟨κ, by omega⟩) (by decide)
      obtain ⟨_, z2⟩ := h500 K nl hi
      have tab := (y3 Q κ 0 (Nat.zero_le Q) (by omega) (by omega) (by rw [e3]; exact z2) (Nat.zero_le _)).2 hQ
      have fa : J_X6_firstAct (lS [(lI [(spl 0 0)]), (fun _ => 0), (spl 2), (fun _ => 0), (spl 4)]) (lT [(lJ []), (tpl 1), (fun _ => 0), (tpl 3), (fun _ => 0)]) (Int32.ofNat Q) (zALL.getD κ 0) 0 = (BVL sm tm W (W - Q) (nAL κ) 0).2 := by
        show spl 2 (J_X6_place (Int32.ofNat Q) (J_X3_kind (zALL.getD κ 0)) (Int32.ofNat 0)).toNatClampNeg = _
        rw [show J_X3_kind (zALL.getD κ 0) = Int32.ofNat κ from kind_o ⟨κ, by omega⟩, pl_i (by omega) (by omega) (by decide)]
        exact tab
      have nh : ¬ J_X11_isHands sx (SHX sh) (zALL.getD (Int32.ofNat κ).toNatClampNeg 0) = 0 := by rw [ek, ih]; exact hi
      by_cases q : J_X0_taken (BVL sm tm W (W - Q) (nAL κ) 0).2 = J_X4_takenByLevel sh (Int32.ofNat Q) (Int32.ofNat (nAL κ)) l
      · have e2 : B_X11_firstAgainst_11 sx sh spl tpl (Int32.ofNat Q) l (Int32.ofNat κ) = Sum.inl (Int32.ofNat κ + 1) := by
          unfold B_X11_firstAgainst_11
          try dsimp only [LetF]
          exact (if_neg ck).trans ((if_neg nh).trans (if_pos (show J_X0_taken (J_X6_firstAct (lS [(lI [(spl 0 0)]), (fun _ => 0), (spl 2), (fun _ => 0), (spl 4)]) (lT [(lJ []), (tpl 1), (fun _ => 0), (tpl 3), (fun _ => 0)]) (Int32.ofNat Q) (zALL.getD (Int32.ofNat κ).toNatClampNeg 0) 0) = J_X4_takenByLevel (SHX sh) (Int32.ofNat Q) (zALL.getD (Int32.ofNat κ).toNatClampNeg 0) l by rw [ek, fa, e3]; exact q)))
        rw [LT_st e2, ofn_s (by omega)]
        refine fa_l K hQ h5 y3 m (κ + 1) (by omega) (fun x hx => ?_)
        by_cases z : x = κ
        · rw [z]; exact fun y => y.2 q
        · exact hb x (by omega)
      · have e2 : B_X11_firstAgainst_11 sx sh spl tpl (Int32.ofNat Q) l (Int32.ofNat κ) = Sum.inr (zALL.getD (Int32.ofNat κ).toNatClampNeg 0) := by
          unfold B_X11_firstAgainst_11
          try dsimp only [LetF]
          exact (if_neg ck).trans ((if_neg nh).trans (if_neg (show ¬ J_X0_taken (J_X6_firstAct (lS [(lI [(spl 0 0)]), (fun _ => 0), (spl 2), (fun _ => 0), (spl 4)]) (lT [(lJ []), (tpl 1), (fun _ => 0), (tpl 3), (fun _ => 0)]) (Int32.ofNat Q) (zALL.getD (Int32.ofNat κ).toNatClampNeg 0) 0) = J_X4_takenByLevel (SHX sh) (Int32.ofNat Q) (zALL.getD (Int32.ofNat κ).toNatClampNeg 0) l by rw [ek, fa, e3]; exact q)))
        rw [ek] at e2
        exact Or.inr ⟨κ, by omega, by rw [LT_en e2, e3], ⟨hi, q⟩, hb⟩
theorem ag_eq {sx sh sm spl : Nat → Nat → Int32} {tpl tm t2 : Nat → Nat → Int64} {l : Int32} {Q W MC : Nat} {s2 : Nat → Int32} (K : HOK sh sm) (hQ : Q < W) (h5 : W ≤ 5) (y3 : PLT sh sm tm W MC 0 (tpl 1) (spl 2)) (hs : ∀ x, x < 500 → ¬ J_X12_isHands sm tm (Int32.ofNat x) = 0 → s2 (3 * x) = (BVL sm tm W (W - Q) x 0).2) : J_X11_firstAgainst sx sh spl tpl (Int32.ofNat Q) l = J_X12_againstOf (up2 sm 12 s2) t2 (Int32.ofNat Q) l := by
  have qt : (Int32.ofNat Q).toInt = (Q : Int) := ofn_t (by omega)
  have hv : ∀ x, BAD sh sm tm (Int32.ofNat Q) l W (W - Q) x → x < 500 → ∃ κ, κ < 35 ∧ nAL κ = x := fun x hx h5 => by
    obtain ⟨k1, _⟩ := h500 K h5 hx.1
    have x4 : x ≤ 400 := by have := k1.2.1; rw [ofn_t (by omega)] at this; omega
    obtain ⟨κ, a1, _, a3, _⟩ := kh_v x4 k1
    exact ⟨κ, a1, a3⟩
  have A : (J_X11_firstAgainst sx sh spl tpl (Int32.ofNat Q) l = -9 ∧ _) ∨ _ := fa_l (sx := sx) (l := l) K hQ h5 y3 35 0 rfl (fun x hx => by omega)
  have B : (J_X12_againstOf (up2 sm 12 s2) t2 (Int32.ofNat Q) l = -9 ∧ _) ∨ _ := ag_l (l := l) (s2 := s2) (t2 := t2) K ⟨by omega, by omega⟩ hs 500 0 rfl (fun x hx => by omega)
  rcases A with ⟨a1, a2⟩ | ⟨a, a0, a1, a2, a3⟩
  · rcases B with ⟨b1, b2⟩ | ⟨b, b0, b1, b2, b3⟩
    · rw [a1, b1]
    · obtain ⟨κ, k1, k2⟩ := hv b b2 b0
      exact absurd (by rw [k2]; exact b2) (a2 κ k1)
  · have na : nAL a < 500 := Nat.lt_of_le_of_lt (nAL_le ⟨a, a0⟩) (by decide)
    rcases B with ⟨b1, b2⟩ | ⟨b, b0, b1, b2, b3⟩
    · exact absurd a2 (b2 (nAL a) na)
    · obtain ⟨κ, k1, k2⟩ := hv b b2 b0
      have e : nAL a = b := by
        by_cases c1 : nAL a < b
        · exact absurd a2 (b3 (nAL a) c1)
        · by_cases c2 : b < nAL a
          · have c3 : κ < a := by
              by_cases c4 : κ < a
              · exact c4
              · by_cases c5 : κ = a
                · rw [← k2, c5] at c2; omega
                · have := nAL_mo ⟨a, a0⟩ ⟨κ, k1⟩ (by show a < κ; omega)
                  have this : nAL a < nAL κ := this
                  omega
            exact absurd (by rw [k2]; exact b2) (a3 κ c3)
          · omega
      have a1 : J_X11_firstAgainst sx sh spl tpl (Int32.ofNat Q) l = Int32.ofNat (nAL a) := a1
      have b1 : J_X12_againstOf (up2 sm 12 s2) t2 (Int32.ofNat Q) l = Int32.ofNat b := b1
      rw [a1, b1, e]
