theorem tot3 {r x : Int32} (w : r = J_X3_total x) (h : 0 ≤ x.toInt) : r.toInt = x.toInt / 100 + x.toInt / 10 % 10 + x.toInt % 10 := by rw [w]; exact tot_t h
theorem dg {x : Int32} (h : 0 ≤ x.toInt) : (x / 100).toInt = x.toInt / 100 ∧ (x / 10 - x / 10 / 10 * 10).toInt = x.toInt / 10 % 10 ∧ (x - x / 10 * 10).toInt = x.toInt % 10 := by
  have r := i_rng x
  have h2 : (x / 10).toInt = x.toInt / 10 := i_div rfl (by decide) h (by decide) r.2
  exact ⟨i_div rfl (by decide) h (by decide) r.2, i_rem h2 (by decide) (by omega) (by decide) (by omega) (by decide), i_rem rfl (by decide) h (by decide) r.2 (by decide)⟩
theorem ofAge_t {r x a : Int32} (w : r = J_X3_ofAge x a) (h : 0 ≤ x.toInt) : (a.toInt = 0 ∧ r.toInt = x.toInt / 100) ∨ (a.toInt = 1 ∧ r.toInt = x.toInt / 10 % 10) ∨ (¬ a.toInt = 0 ∧ ¬ a.toInt = 1 ∧ r.toInt = x.toInt % 10) := by
  obtain ⟨d1, d2, d3⟩ := dg h
  subst w
  unfold J_X3_ofAge
  by_cases q : a = 0
  · left; rw [if_pos q]; exact ⟨f_eq rfl (by decide) q, d1⟩
  · rw [if_neg q]
    by_cases q1 : a = 1
    · right; left; rw [if_pos q1]; exact ⟨f_eq rfl (by decide) q1, d2⟩
    · right; right; rw [if_neg q1]; exact ⟨f_ne rfl (by decide) q, f_ne rfl (by decide) q1, d3⟩
theorem has_b {r h g : Int32} (w : r = J_X3_has h g) : 0 ≤ r.toInt ∧ r.toInt ≤ 1 := by
  subst w; unfold J_X3_has; repeat' split
  all_goals decide
theorem has_t {r h g : Int32} (w : r = J_X3_has h g) (c : ¬ r = 0) (h0 : 0 ≤ h.toInt) (g0 : 0 ≤ g.toInt) : g.toInt / 100 ≤ h.toInt / 100 ∧ g.toInt / 10 % 10 ≤ h.toInt / 10 % 10 ∧ g.toInt % 10 ≤ h.toInt % 10 := by
  obtain ⟨d1, d2, d3⟩ := dg h0
  obtain ⟨e1, e2, e3⟩ := dg g0
  subst w
  unfold J_X3_has at c
  repeat' split at c
  all_goals first | exact absurd rfl c | skip
  rename_i q1 q2 q3
  exact ⟨f_nlt d1 e1 q1, f_nlt d2 e2 q2, f_nlt d3 e3 q3⟩
theorem atm_b {r h m : Int32} (w : r = J_X3_areAtMost h m) : 0 ≤ r.toInt ∧ r.toInt ≤ 1 := by
  subst w; unfold J_X3_areAtMost; repeat' split
  all_goals decide
theorem atm_t {r h m : Int32} (w : r = J_X3_areAtMost h m) (c : ¬ r = 0) : 0 ≤ h.toInt ∧ h.toInt ≤ 999 ∧ h.toInt / 100 + h.toInt / 10 % 10 + h.toInt % 10 ≤ m.toInt := by
  subst w
  unfold J_X3_areAtMost at c
  repeat' split at c
  all_goals first | exact absurd rfl c | skip
  rename_i q1 q2 q3
  have h0 : 0 ≤ h.toInt := f_nlt rfl (by decide) q1
  exact ⟨h0, f_nlt (by decide) rfl q2, f_nlt rfl (tot_t h0) q3⟩
