/-! fractions told: alike -/
theorem d64 {a b : Int64} {x y : Nat} (ha : a.toInt = (x : Int)) (hb : b.toInt = (y : Int)) (hy : 0 < y) : (a / b).toInt = ((x / y : Nat) : Int) ∧ (a - a / b * b).toInt = ((x % y : Nat) : Int) := by
  have l1 := a.toInt_lt
  have l2 := b.toInt_lt
  have h1 : x / y ≤ x := Nat.div_le_self x y
  have h2 : x / y * y ≤ x := Nat.div_mul_le_self x y
  have h3 : x % y + y * (x / y) = x := Nat.mod_add_div x y
  rw [Nat.mul_comm] at h3
  have e1 : (a / b).toInt = ((x / y : Nat) : Int) := by
    rw [Int64.toInt_div, ha, hb, ← Int.ofNat_tdiv]
    generalize x / y = q at h1 h2 h3
    exact Int.bmod_eq_of_le (by omega) (by omega)
  have e2 : (a / b * b).toInt = ((x / y * y : Nat) : Int) := by
    rw [Int64.toInt_mul, e1, hb, ← Int.natCast_mul]
    generalize x / y * y = q at h2 h3
    exact Int.bmod_eq_of_le (by omega) (by omega)
  refine ⟨e1, ?_⟩
  rw [Int64.toInt_sub, ha, e2]
  generalize x / y * y = q at h2 h3
  generalize x % y = r at h3 ⊢
  have e3 : (x : Int) - (q : Int) = (r : Int) := by omega
  rw [e3]
  exact Int.bmod_eq_of_le (by omega) (by omega)
theorem common_g {p0 p1 : Int64} : ∀ (n y x : Nat) (Y X : Int64), y < n → Y.toInt = (y : Int) → X.toInt = (x : Int) → (LTs default (B_X12_common_6 p0 p1) n (Y, X)).toInt = ((Nat.gcd y x : Nat) : Int)
  | 0, y, _, _, _, h, _, _ => absurd h (Nat.not_lt_zero y)
  | n + 1, y, x, Y, X, h, hY, hX => by
    by_cases c : lg_cmp Y 0 = 0
    · have z : Y.toInt = 0 := lcz rfl c
      have y0 : y = 0 := by omega
      have e : B_X12_common_6 p0 p1 (Y, X) = Sum.inr X := if_pos c
      rw [LT_en e, hX, y0, Nat.gcd_zero_left]
    · have z : ¬ Y.toInt = 0 := lcnz rfl c
      have y0 : 0 < y := by omega
      have e : B_X12_common_6 p0 p1 (Y, X) = Sum.inl (X - X / Y * Y, Y) := if_neg c
      have m := Nat.mod_lt x y0
      rw [LT_st e, common_g n (x % y) y _ _ (by omega) (d64 hX hY y0).2 hY, Nat.gcd_rec y x]
theorem told_r {a b : Int64} {p : Int32} {x y : Nat} (ha : a.toInt = (x : Int)) (hb : b.toInt = (y : Int)) (hy : 0 < y) : (J_X12_told a b p).toInt = (if p = 0 then ((y / Nat.gcd x y : Nat) : Int) else ((x / Nat.gcd x y : Nat) : Int)) := by
  have g : (J_X12_common a b).toInt = ((Nat.gcd x y : Nat) : Int) := by
    have h := common_g (p0 := a) (p1 := b) (b.toInt.natAbs + 1) y x b a (by omega) hb ha
    rw [Nat.gcd_comm x y]; exact h
  have g0 : 0 < Nat.gcd x y := Nat.gcd_pos_of_pos_right x hy
  by_cases c : p = 0
  · rw [if_pos c]
    have e : J_X12_told a b p = b / J_X12_common a b := if_pos c
    rw [e]; exact (d64 hb g g0).1
  · rw [if_neg c]
    have e : J_X12_told a b p = a / J_X12_common a b := if_neg c
    rw [e]; exact (d64 ha g g0).1
theorem cop5 {t k : Nat} (h : ¬ t % 5 = 0) : Nat.gcd t (5 ^ k) = 1 := by
  have c : Nat.Coprime 5 t := by
    show Nat.gcd 5 t = 1
    rw [Nat.gcd_rec 5 t]
    have l := Nat.mod_lt t (show 0 < 5 from by decide)
    generalize t % 5 = r at h l ⊢
    rcases (show r = 1 ∨ r = 2 ∨ r = 3 ∨ r = 4 by omega) with q | q | q | q <;> subst q <;> decide
  exact (Nat.Coprime.pow_left k c).symm
theorem five64 : (5 : Int64).toInt = ((5 : Nat) : Int) := by decide
theorem told_l {a b : Int64} {p : Int32} : ∀ (n k t : Nat) (I : Int32) (Bo T : Int64), I.toInt + (n : Int) = 21 → 0 ≤ I.toInt → k + 1 ≤ n → Bo.toInt = ((5 ^ k : Nat) : Int) → T.toInt = (t : Int) → (LTs default (B_X11_told_9 a b p) n (I, Bo, T)).toInt = (if p = 0 then ((5 ^ k / Nat.gcd t (5 ^ k) : Nat) : Int) else ((t / Nat.gcd t (5 ^ k) : Nat) : Int))
  | 0, k, _, _, _, _, _, _, h, _, _ => absurd h (Nat.not_succ_le_zero k)
  | n + 1, k, t, I, Bo, T, hI, h0, hk, hB, hT => by
    have en : ∀ (z : Sum (Int32 × Int64 × Int64) Int64), z = (if p = 0 then Sum.inr Bo else Sum.inr T) → B_X11_told_9 a b p (I, Bo, T) = z → Nat.gcd t (5 ^ k) = 1 → (LTs default (B_X11_told_9 a b p) (n + 1) (I, Bo, T)).toInt = (if p = 0 then ((5 ^ k / Nat.gcd t (5 ^ k) : Nat) : Int) else ((t / Nat.gcd t (5 ^ k) : Nat) : Int)) := by
      intro z hz e g
      rw [g, Nat.div_one, Nat.div_one]
      by_cases c : p = 0
      · rw [if_pos c] at hz ⊢
        rw [LT_en (e.trans hz)]; exact hB
      · rw [if_neg c] at hz ⊢
        rw [LT_en (e.trans hz)]; exact hT
    by_cases c : 20 ≤ I
    · have q := f_le (by decide : (20 : Int32).toInt = 20) rfl c
      have k0 : k = 0 := by omega
      exact en _ rfl (if_pos c) (by rw [k0]; exact Nat.gcd_one_right t)
    · have q := f_nle (by decide : (20 : Int32).toInt = 20) rfl c
      have dT := d64 hT five64 (by decide)
      have dB := d64 hB five64 (by decide)
      by_cases ct : lg_cmp (T - T / 5 * 5) 0 = 0
      · have t5 : (T - T / 5 * 5).toInt = 0 := lcz rfl ct
        rw [dT.2] at t5
        have t6 : t % 5 = 0 := by omega
        by_cases cb : lg_cmp (Bo - Bo / 5 * 5) 0 = 0
        · have b5 : (Bo - Bo / 5 * 5).toInt = 0 := lcz rfl cb
          rw [dB.2] at b5
          have kc : k = 0 ∨ ∃ j, k = j + 1 := by
            cases k with
            | zero => exact Or.inl rfl
            | succ j => exact Or.inr ⟨j, rfl⟩
          rcases kc with k0 | ⟨j, hj⟩
          · rw [k0] at b5; exact absurd b5 (by decide)
          · subst hj
            have e : B_X11_told_9 a b p (I, Bo, T) = Sum.inl (I + 1, Bo / 5, T / 5) := (if_neg c).trans ((if_pos ct).trans (if_pos cb))
            have pj : 5 ^ (j + 1) / 5 = 5 ^ j := by rw [Nat.pow_succ]; exact Nat.mul_div_cancel _ (by decide)
            have tj : t = 5 * (t / 5) := by omega
            have hI2 : (I + 1).toInt = I.toInt + 1 := i_add rfl (by decide) (by omega) (by omega)
            rw [LT_st e, told_l n j (t / 5) (I + 1) (Bo / 5) (T / 5) (by rw [hI2]; omega) (by rw [hI2]; omega) (by omega) (by rw [dB.1, pj]) dT.1]
            have g : Nat.gcd t (5 ^ (j + 1)) = 5 * Nat.gcd (t / 5) (5 ^ j) := by
              have g1 : Nat.gcd (5 * (t / 5)) (5 * 5 ^ j) = 5 * Nat.gcd (t / 5) (5 ^ j) := Nat.gcd_mul_left 5 (t / 5) (5 ^ j)
              rw [← tj] at g1
              rw [Nat.pow_succ, Nat.mul_comm (5 ^ j) 5]; exact g1
            have q1 : 5 ^ (j + 1) / Nat.gcd t (5 ^ (j + 1)) = 5 ^ j / Nat.gcd (t / 5) (5 ^ j) := by
              rw [g, Nat.pow_succ, Nat.mul_comm (5 ^ j) 5]; exact Nat.mul_div_mul_left _ _ (by decide)
            have q2 : t / Nat.gcd t (5 ^ (j + 1)) = (t / 5) / Nat.gcd (t / 5) (5 ^ j) := by
              rw [g]
              have w : 5 * (t / 5) / (5 * Nat.gcd (t / 5) (5 ^ j)) = (t / 5) / Nat.gcd (t / 5) (5 ^ j) := Nat.mul_div_mul_left _ _ (by decide)
              rw [← tj] at w; exact w
            rw [q1, q2]
        · have b5 : ¬ (Bo - Bo / 5 * 5).toInt = 0 := lcnz rfl cb
          rw [dB.2] at b5
          have k0 : k = 0 := by
            match k, b5 with
            | 0, _ => rfl
            | j + 1, b5 => exact absurd (show (((5 ^ (j + 1) % 5 : Nat)) : Int) = 0 by rw [Nat.pow_succ, Nat.mul_mod_left]; rfl) b5
          exact en _ rfl ((if_neg c).trans ((if_pos ct).trans (if_neg cb))) (by rw [k0]; exact Nat.gcd_one_right t)
      · have t5 : ¬ (T - T / 5 * 5).toInt = 0 := lcnz rfl ct
        rw [dT.2] at t5
        exact en _ rfl ((if_neg c).trans (if_neg ct)) (cop5 (by omega))
def TLK (A B a b : Int64) : Prop := ∃ M x y k : Nat, 0 < M ∧ 0 < y ∧ a.toInt = (x : Int) ∧ b.toInt = (y : Int) ∧ A.toInt = ((M * x : Nat) : Int) ∧ B.toInt = ((M * y : Nat) : Int) ∧ M * y = 5 ^ k ∧ k ≤ 20
theorem told_alike {A B a b : Int64} {p : Int32} (h : TLK A B a b) : J_X11_told A B p = J_X12_told a b p := by
  obtain ⟨M, x, y, k, hM, hy, ha, hb, hA, hB, hk, h20⟩ := h
  apply Int64.toInt_inj.mp
  rw [told_r ha hb hy]
  have l := told_l (a := A) (b := B) (p := p) 21 k (M * x) 0 B A (by decide) (by decide) (by omega) (by rw [hB, hk]) hA
  rw [← hk, Nat.gcd_mul_left, Nat.mul_div_mul_left _ _ hM, Nat.mul_div_mul_left _ _ hM] at l
  exact l
