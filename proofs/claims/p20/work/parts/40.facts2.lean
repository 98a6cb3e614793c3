theorem kind_dec : ∀ n : Fin 401, n.val / 100 + n.val / 10 % 10 + n.val % 10 ≤ 4 → 0 ≤ (J_X3_kind (Int32.ofNat n.val)).toInt ∧ (J_X3_kind (Int32.ofNat n.val)).toInt ≤ 34 ∧ (100 ≤ n.val ∨ (J_X3_kind (Int32.ofNat n.val)).toInt ≤ 14) := by decide +kernel
theorem kind_t {r x : Int32} (w : r = J_X3_kind x) (h : 0 ≤ x.toInt ∧ x.toInt ≤ 400 ∧ x.toInt / 100 + x.toInt / 10 % 10 + x.toInt % 10 ≤ 4) : 0 ≤ r.toInt ∧ r.toInt ≤ 34 ∧ (100 ≤ x.toInt ∨ r.toInt ≤ 14) := by
  obtain ⟨n, hn, rfl⟩ := nI_of2 (x := x) (M := 400) (n := 400) (by decide) (fun q => by have := Int32.lt_iff_toInt_lt.mp q; simp at this; omega) (Int32.le_iff_toInt_le.mpr (by simpa using h.2.1))
  have e : (nI n).toInt = (n : Int) := nI_toInt (by omega)
  rw [e] at h ⊢
  have := kind_dec ⟨n, by omega⟩ (by show n / 100 + n / 10 % 10 + n % 10 ≤ 4; omega)
  rw [w]
  have e2 : J_X3_kind (Int32.ofNat n) = J_X3_kind (nI n) := rfl
  simp only [e2] at this
  omega
