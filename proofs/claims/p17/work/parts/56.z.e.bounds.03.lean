theorem cost_b {sh sm : Nat → Nat → Int32} {w d c a : Int32} (K : HOK sh sm) (N : HNT (HT sh)) (hd : 0 ≤ d.toInt ∧ d.toInt ≤ 400 ∧ tot d ≤ 4) (hc : 0 ≤ c.toInt ∧ c.toInt ≤ 2) (hg : 0 ≤ (J_X0_letGo a).toInt ∧ (J_X0_letGo a).toInt ≤ 4) (ht : 0 ≤ (J_X0_taught a).toInt ∧ (J_X0_taught a).toInt ≤ 1) (hl : -999 ≤ (J_X4_lack sh w d c (J_X0_taught a)).toInt ∧ (J_X4_lack sh w d c (J_X0_taught a)).toInt ≤ 999) : 0 ≤ (J_X4_weekCost sh w d c a).toInt ∧ (J_X4_weekCost sh w d c a).toInt ≤ 10000 := by
  obtain ⟨n1, n2, n3, n4⟩ := N
  have n1 : NN (sh 0 8) := n1
  have n2 : NN (sh 0 9) := n2
  have n3 : NN (sh 0 10) := n3
  obtain ⟨r1, r2, r3, r4, r5, r6, r7, r8, r9⟩ := K.2.1
  have r3 : 0 ≤ (sh 0 6).toInt ∧ (sh 0 6).toInt ≤ 9 := r3
  have r4 : 0 ≤ (sh 0 7).toInt ∧ (sh 0 7).toInt ≤ 9 := r4
  have r5 : -9 ≤ (sh 0 8).toInt ∧ (sh 0 8).toInt ≤ 9 := r5
  have r6 : -9 ≤ (sh 0 9).toInt ∧ (sh 0 9).toInt ≤ 9 := r6
  have r7 : -9 ≤ (sh 0 10).toInt ∧ (sh 0 10).toInt ≤ 9 := r7
  have tt : (J_X3_total d).toInt = tot d := tot_t hd.1
  have t0 := tot_0 (x := d) hd.1
  unfold J_X4_weekCost
  dsimp only
  generalize J_X4_lack sh w d c (J_X0_taught a) = la at hl ⊢
  generalize J_X0_letGo a = g at hg ⊢
  generalize J_X0_taught a = tg at ht ⊢
  have lb : 0 ≤ (if 0 < la then la else (0 : Int32)).toInt ∧ (if 0 < la then la else (0 : Int32)).toInt ≤ 999 := by
    by_cases q : 0 < la
    · have := f_lt (by decide : (0 : Int32).toInt = 0) rfl q
      rw [if_pos q]; omega
    · rw [if_neg q]; decide
  have b1 := mul_b (x := sh 0 6) (y := J_X3_total d) (A := 9) (B := 4) r3 (by rw [tt]; omega) (by decide)
  have b2 := mul_b (x := sh 0 7) (A := 9) (B := 999) r4 lb (by decide)
  have b3 := add_b b1 b2 (by decide)
  generalize sh 0 6 * J_X3_total d + sh 0 7 * (if 0 < la then la else (0 : Int32)) = z at b3 ⊢
  have g1 : ¬ sh 0 8 = -9 → 0 ≤ (sh 0 8 * g).toInt ∧ (sh 0 8 * g).toInt ≤ 9 * 4 := fun q => mul_b (nn_v n1 r5.2 q) hg (by decide)
  have g2 : ¬ sh 0 9 = -9 → 0 ≤ (sh 0 9 * tg).toInt ∧ (sh 0 9 * tg).toInt ≤ 9 * 1 := fun q => mul_b (nn_v n2 r6.2 q) ht (by decide)
  have g3 : ¬ sh 0 10 = -9 → 0 ≤ (sh 0 10 * c).toInt ∧ (sh 0 10 * c).toInt ≤ 9 * 2 := fun q => mul_b (nn_v n3 r7.2 q) hc (by decide)
  by_cases q1 : sh 0 8 = -9
  · rw [if_pos q1]
    by_cases q2 : sh 0 9 = -9
    · rw [if_pos q2]
      by_cases q3 : sh 0 10 = -9
      · rw [if_pos q3]; omega
      · rw [if_neg q3]; have y := add_b b3 (g3 q3) (by decide); omega
    · rw [if_neg q2]
      by_cases q3 : sh 0 10 = -9
      · rw [if_pos q3]; have y := add_b b3 (g2 q2) (by decide); omega
      · rw [if_neg q3]; have y := add_b (add_b b3 (g2 q2) (by decide)) (g3 q3) (by decide); omega
  · rw [if_neg q1]
    by_cases q2 : sh 0 9 = -9
    · rw [if_pos q2]
      by_cases q3 : sh 0 10 = -9
      · rw [if_pos q3]; have y := add_b b3 (g1 q1) (by decide); omega
      · rw [if_neg q3]; have y := add_b (add_b b3 (g1 q1) (by decide)) (g3 q3) (by decide); omega
    · rw [if_neg q2]
      by_cases q3 : sh 0 10 = -9
      · rw [if_pos q3]; have y := add_b (add_b b3 (g1 q1) (by decide)) (g2 q2) (by decide); omega
      · rw [if_neg q3]; have y := add_b (add_b (add_b b3 (g1 q1) (by decide)) (g2 q2) (by decide)) (g3 q3) (by decide); omega
