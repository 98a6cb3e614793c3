theorem vb_le {n : Nat} (h : n ≤ 5) : (10000 * n + 36) * 625 ^ n ≤ 9000000000000000000 := by
  have a := Nat.mul_le_mul (show 10000 * n + 36 ≤ 50036 by omega) (p625 h)
  exact Nat.le_trans a (by decide)
theorem val_n {sx sh sm : Nat → Nat → Int32} {tm : Nat → Nat → Int64} {r : Int32} {W : Nat} (K : HOK sh sm) (hL : LVL (sx 1) (sm 4)) (hr : 0 ≤ r.toInt ∧ r.toInt ≤ 2) (T : TBL sh) (N : HNT (HT sh)) (hW : (sh 0 0).toInt = (W : Int)) : ∀ (n : Nat) (c : Int32) (h : Nat), n ≤ W → 0 ≤ c.toInt ∧ c.toInt ≤ 2 → h < 900 → (0 ≤ (Int32.ofNat h).toInt ∧ (Int32.ofNat h).toInt ≤ 400 ∧ tot (Int32.ofNat h) ≤ 4) → tot (Int32.ofNat h) ≤ (sh 0 1).toInt → ∃ x : Nat, (VAL sm tm r W n c h).toInt = ((x : Nat) : Int) ∧ x ≤ (10000 * n + 36) * 625 ^ n
  | 0, c, h, _, _, _, hh, ht => by
    have b := bonus_b K N hh
    have e : (VAL sm tm r W 0 c h).toInt = (J_X4_bonusFor sh (Int32.ofNat h)).toInt := by
      show ((J_X12_bonus sm tm (Int32.ofNat h)).toInt64).toInt = _
      rw [Int32.toInt_toInt64, bonus_alike (tm := tm) K]
    refine ⟨(J_X4_bonusFor sh (Int32.ofNat h)).toInt.toNat, by rw [e]; omega, ?_⟩
    rw [Nat.pow_zero, Nat.mul_one]
    omega
  | n + 1, c, h, hn, hc, h9, hh, ht => by
    have wk := K.2.2.1
    have w0 : sh 0 0 = Int32.ofNat W := Int32.toInt_inj.mp (by rw [hW, ofn_t (by omega)])
    have V0 : (sm 2) (0 : Int32).toNatClampNeg = sh 0 0 := by rw [n0_]; exact K.1.1
    have vt : (Int32.ofNat (W - (n + 1))).toInt = ((W - (n + 1) : Nat) : Int) := ofn_t (by omega)
    obtain ⟨q1, ⟨q2, q3⟩, q4, q5⟩ := rule_v (sx := sx) (tm := tm) (r := r) (w := Int32.ofNat (W - (n + 1))) (c := c) (h := Int32.ofNat h) K hL hr ⟨by omega, by omega⟩ hc hh ht
    have ep : J_X12_parts ((sm 2) (0 : Int32).toNatClampNeg - Int32.ofNat (W - (n + 1))) = SCN (n + 1) 1 := by
      rw [V0, w0, show Int32.ofNat W - Int32.ofNat (W - (n + 1)) = Int32.ofNat (n + 1) from Int32.toInt_inj.mp (by rw [i_sub (ofn_t (k := W) (by omega)) vt (by omega) (by omega), ofn_t (by omega)]; omega)]
      exact (parts_v (by omega)).1
    have es := (parts_v (W := n + 1) (by omega)).2
    have cb := cost_b (w := Int32.ofNat (W - (n + 1))) (c := c) (a := 0) K N q2 hc (by decide) (by decide) (by rw [show J_X0_taught 0 = 0 from by decide]; exact q5.2)
    have hB := vb_le (n := n) (by omega)
    have hB2 := vb_le (n := n + 1) (by omega)
    have e625 : 625 * ((10000 * n + 36) * 625 ^ n) = (10000 * n + 36) * 625 ^ (n + 1) := by rw [Nat.pow_succ, Nat.mul_left_comm, Nat.mul_comm 625]
    have esum : 10000 * 625 ^ (n + 1) + (10000 * n + 36) * 625 ^ (n + 1) = (10000 * (n + 1) + 36) * 625 ^ (n + 1) := by
      rw [← Nat.add_mul]
      exact congrArg (fun z => z * 625 ^ (n + 1)) (by omega)
    obtain ⟨x, x1, x2⟩ := onT_n (tm := tm) (V := VAL sm tm r W n 0) (B := (10000 * n + 36) * 625 ^ n) K T q2 q3 (by rw [e625]; omega) (fun b hb hz => by
      have k1 := ak (k := b) (by omega)
      have nl := nAL_lt ⟨b, by omega⟩
      rw [k1.2.2.1] at hz
      have k2 := k1.1
      rw [k1.2.2.1] at k2
      exact val_n K hL hr T N hW n 0 (nAL b) (by omega) (by decide) nl k2 hz)
    rw [e625] at x2
    have ec : (J_X4_weekCost sh (Int32.ofNat (W - (n + 1))) (Int32.ofNat h + 100 * J_X4_takenByLevel sh (Int32.ofNat (W - (n + 1))) (Int32.ofNat h) (J_X11_levelBy sx r (Int32.ofNat (W - (n + 1))))) c 0).toInt64.toInt = (((J_X4_weekCost sh (Int32.ofNat (W - (n + 1))) (Int32.ofNat h + 100 * J_X4_takenByLevel sh (Int32.ofNat (W - (n + 1))) (Int32.ofNat h) (J_X11_levelBy sx r (Int32.ofNat (W - (n + 1))))) c 0).toInt.toNat : Nat) : Int) := by rw [Int32.toInt_toInt64]; omega
    have cn : (J_X4_weekCost sh (Int32.ofNat (W - (n + 1))) (Int32.ofNat h + 100 * J_X4_takenByLevel sh (Int32.ofNat (W - (n + 1))) (Int32.ofNat h) (J_X11_levelBy sx r (Int32.ofNat (W - (n + 1))))) c 0).toInt.toNat ≤ 10000 := by omega
    generalize (J_X4_weekCost sh (Int32.ofNat (W - (n + 1))) (Int32.ofNat h + 100 * J_X4_takenByLevel sh (Int32.ofNat (W - (n + 1))) (Int32.ofNat h) (J_X11_levelBy sx r (Int32.ofNat (W - (n + 1))))) c 0).toInt.toNat = C at ec cn
    have m1 := Nat.mul_le_mul cn (Nat.le_refl (625 ^ (n + 1)))
    have y1 := l_mulN ec es (by omega)
    have y2 := l_add y1 x1 (by omega)
    refine ⟨C * 625 ^ (n + 1) + x, ?_, by omega⟩
    have ev : VAL sm tm r W (n + 1) c h = (J_X4_weekCost sh (Int32.ofNat (W - (n + 1))) (Int32.ofNat h + 100 * J_X4_takenByLevel sh (Int32.ofNat (W - (n + 1))) (Int32.ofNat h) (J_X11_levelBy sx r (Int32.ofNat (W - (n + 1))))) c 0).toInt64 * SCN (n + 1) 1 + SML (onT sm tm (VAL sm tm r W n 0) (Int32.ofNat h + 100 * J_X4_takenByLevel sh (Int32.ofNat (W - (n + 1))) (Int32.ofNat h) (J_X11_levelBy sx r (Int32.ofNat (W - (n + 1)))))) 50 0 := by
      show mnT sm tm r (Int32.ofNat (W - (n + 1))) c (VAL sm tm r W n 0) h = _
      unfold mnT
      rw [show thR sm tm r (Int32.ofNat (W - (n + 1))) h = _ from q1, ← q4, ep]
    rw [ev]
    exact y2
