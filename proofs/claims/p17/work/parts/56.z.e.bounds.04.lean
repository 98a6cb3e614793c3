theorem bonus_b {sh sm : Nat → Nat → Int32} {h : Int32} (K : HOK sh sm) (N : HNT (HT sh)) (hh : 0 ≤ h.toInt ∧ h.toInt ≤ 400 ∧ tot h ≤ 4) : 0 ≤ (J_X4_bonusFor sh h).toInt ∧ (J_X4_bonusFor sh h).toInt ≤ 36 := by
  have n4 : NN (sh 0 11) := N.2.2.2
  have r8 : -9 ≤ (sh 0 11).toInt ∧ (sh 0 11).toInt ≤ 9 := K.2.1.2.2.2.2.2.2.2.1
  have tt : (J_X3_total h).toInt = tot h := tot_t hh.1
  have t0 := tot_0 (x := h) hh.1
  unfold J_X4_bonusFor
  by_cases q : sh 0 11 = -9
  · rw [if_pos q]; decide
  · rw [if_neg q]; exact mul_b (A := 9) (B := 4) (nn_v n4 r8.2 q) (by rw [tt]; omega) (by decide)
/-! the mean is no number below 0 -/
theorem onT_n {sh sm : Nat → Nat → Int32} {tm : Nat → Nat → Int64} {V : Nat → Int64} {th : Int32} {B : Nat} (K : HOK sh sm) (T : TBL sh) (hh : 0 ≤ th.toInt ∧ th.toInt ≤ 400 ∧ tot th ≤ 4) (ht : tot th ≤ (sh 0 1).toInt) (hB : 625 * B ≤ 9000000000000000000) (hV : ∀ b, b < 15 → tot (zALL.getD b 0) ≤ (sh 0 1).toInt → ∃ N : Nat, (V (nAL b)).toInt = ((N : Nat) : Int) ∧ N ≤ B) : ∃ x : Nat, (SML (onT sm tm V th) 50 0).toInt = ((x : Nat) : Int) ∧ x ≤ 625 * B := by
  obtain ⟨k1, k2⟩ := kd_t hh
  rw [onT_k K T hh ht]
  have e : ∀ b, b < 15 → ((sh 5 (15 * (J_X3_kind th).toNatClampNeg + b)).toInt64 * V (nAL b)).toInt = ((((sh 5 (15 * (J_X3_kind th).toNatClampNeg + b)).toInt64 * V (nAL b)).toInt.toNat : Nat) : Int) ∧ ((sh 5 (15 * (J_X3_kind th).toNatClampNeg + b)).toInt64 * V (nAL b)).toInt.toNat ≤ tbN sh (J_X3_kind th).toNatClampNeg b * B := fun b hb => by
    have z := sd_n K T k1 hb
    by_cases c : tot (zALL.getD b 0) ≤ (sh 0 1).toInt
    · obtain ⟨N, v1, v2⟩ := hV b hb c
      have m := Nat.mul_le_mul (tbN_le K k1 hb) v2
      have y := l_mulN z v1 (Nat.le_trans m hB)
      rw [y, Int.toNat_natCast]
      exact ⟨rfl, Nat.mul_le_mul (Nat.le_refl _) v2⟩
    · have a3 := (ak (k := b) (by omega)).2.1
      have t0 : tbN sh (J_X3_kind th).toNatClampNeg b = 0 := tbN_0 k1 (by omega)
      rw [t0] at z ⊢
      rw [l0 z, Int64.zero_mul]
      exact ⟨rfl, Nat.zero_le _⟩
  have s1 := nsm_le (f := fun b => ((sh 5 (15 * (J_X3_kind th).toNatClampNeg + b)).toInt64 * V (nAL b)).toInt.toNat) (g := fun b => tbN sh (J_X3_kind th).toNatClampNeg b * B) 15 0 (fun b _ hb => (e b (by omega)).2)
  rw [nsm_mul, show NSM (fun b => tbN sh (J_X3_kind th).toNatClampNeg b) 15 0 = 625 from tbN_row K k1] at s1
  exact ⟨_, sml_n 15 0 (fun b _ hb => (e b (by omega)).1) (Nat.le_trans s1 hB), s1⟩
