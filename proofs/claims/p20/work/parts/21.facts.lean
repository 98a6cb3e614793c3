theorem in_b {r : Int32} {a b c : Int64} (w : r = J_X12_in a b c) : 0 ≤ r.toInt ∧ r.toInt ≤ 1 := by
  subst w; unfold J_X12_in; split
  · decide
  · split <;> decide
theorem in_t {r : Int32} {a b c : Int64} {A B C : Int} (ha : a.toInt = A) (hb : b.toInt = B) (hc : c.toInt = C) (w : r = J_X12_in a b c) (h : ¬ r = 0) : B ≤ A ∧ A ≤ C := by
  subst w; subst ha; subst hb; subst hc
  unfold J_X12_in at h
  split at h
  · exact absurd rfl h
  · rename_i h1
    split at h
    · exact absurd rfl h
    · rename_i h2
      rw [lg_cmp_lt] at h1; rw [lg_cmp_gt] at h2
      rw [Int64.lt_iff_toInt_lt] at h1 h2
      omega
theorem in_f {r : Int32} {a b c : Int64} {A B C : Int} (ha : a.toInt = A) (hb : b.toInt = B) (hc : c.toInt = C) (w : r = J_X12_in a b c) (h : r = 0) : A < B ∨ C < A := by
  subst w; subst ha; subst hb; subst hc
  unfold J_X12_in at h
  split at h
  · rename_i h1
    rw [lg_cmp_lt, Int64.lt_iff_toInt_lt] at h1
    exact Or.inl h1
  · split at h
    · rename_i h2
      rw [lg_cmp_gt, Int64.lt_iff_toInt_lt] at h2
      exact Or.inr h2
    · exact absurd h (by decide)
theorem once_t {r p : Int32} (w : r = J_X12_once p) : r.toInt = -9 ∨ (0 ≤ r.toInt ∧ r.toInt ≤ 6) := by
  subst w; unfold J_X12_once
  repeat' split
  all_goals decide
theorem tot_t {x : Int32} (h : 0 ≤ x.toInt) : (J_X3_total x).toInt = x.toInt / 100 + x.toInt / 10 % 10 + x.toInt % 10 := by
  have r := i_rng x
  have h1 : (x / 100).toInt = x.toInt / 100 := i_div rfl (by decide) h (by decide) r.2
  have h2 : (x / 10).toInt = x.toInt / 10 := i_div rfl (by decide) h (by decide) r.2
  have h3 : (x / 10 - x / 10 / 10 * 10).toInt = x.toInt / 10 % 10 := i_rem h2 (by decide) (by omega) (by decide) (by omega) (by decide)
  have h4 : (x - x / 10 * 10).toInt = x.toInt % 10 := i_rem rfl (by decide) h (by decide) r.2 (by decide)
  exact i_add (i_add h1 h3 (by omega) (by omega)) h4 (by omega) (by omega)
theorem all_t {r x : Int32} (w : r = J_X12_all x) (h : 0 ≤ x.toInt) : r.toInt = x.toInt / 100 + x.toInt / 10 % 10 + x.toInt % 10 := by
  rw [w]; exact tot_t h
theorem bit_dec : ∀ a : Fin 64, ∀ r : Fin 10, ¬ ((Int32.ofNat a.val >>> (Int32.ofNat r.val &&& 31)) &&& 1) = 0 → (r.val ≤ 5 ∧ (a.val ≤ 31 → r.val ≤ 4) ∧ (a.val ≤ 7 → r.val ≤ 2)) := by decide +kernel
theorem bitn {a r x y : Int32} (e1 : x = a >>> (r &&& 31)) (e2 : y = x &&& 1) (h : ¬ y = 0) (h0 : 0 ≤ r.toInt ∧ r.toInt ≤ 9) : (0 ≤ a.toInt ∧ a.toInt ≤ 63 → r.toInt ≤ 5) ∧ (0 ≤ a.toInt ∧ a.toInt ≤ 31 → r.toInt ≤ 4) ∧ (0 ≤ a.toInt ∧ a.toInt ≤ 7 → r.toInt ≤ 2) := by
  obtain ⟨m, hm, rfl⟩ := nI_of2 (x := r) (M := 9) (n := 9) (by decide) (fun q => by have := Int32.lt_iff_toInt_lt.mp q; simp at this; omega) (Int32.le_iff_toInt_le.mpr (by simpa using h0.2))
  have key : ∀ n : Nat, n ≤ 63 → a = nI n → (m ≤ 5 ∧ (n ≤ 31 → m ≤ 4) ∧ (n ≤ 7 → m ≤ 2)) := by
    intro n hn ea
    subst ea
    have := bit_dec ⟨n, by omega⟩ ⟨m, by omega⟩
    exact this (by rw [e2, e1] at h; exact h)
  have hmI : (nI m).toInt = m := nI_toInt (by omega)
  have get : 0 ≤ a.toInt → a.toInt ≤ 63 → ∃ n : Nat, n ≤ 63 ∧ a = nI n ∧ a.toInt = n := by
    intro h1 h2
    obtain ⟨n, hn, ea⟩ := nI_of2 (x := a) (M := 63) (n := 63) (by decide) (fun q => by have := Int32.lt_iff_toInt_lt.mp q; simp at this; omega) (Int32.le_iff_toInt_le.mpr (by simpa using h2))
    exact ⟨n, hn, ea, by rw [ea]; exact nI_toInt (by omega)⟩
  refine ⟨fun q => ?_, fun q => ?_, fun q => ?_⟩
  all_goals
    obtain ⟨n, hn, ea, et⟩ := get q.1 (by omega)
    obtain ⟨k1, k2, k3⟩ := key n hn ea
    omega
