theorem lev_b {r g : Int32} (w : r = J_X3_areLeavers g) : 0 ≤ r.toInt ∧ r.toInt ≤ 1 := by
  subst w; unfold J_X3_areLeavers; repeat' split
  all_goals decide
theorem lev_t {r g : Int32} (w : r = J_X3_areLeavers g) (c : ¬ r = 0) : 0 ≤ g.toInt ∧ g.toInt ≤ 444 := by
  subst w
  unfold J_X3_areLeavers at c
  repeat' split at c
  all_goals first | exact absurd rfl c | skip
  rename_i q1 q2 q3 q4
  exact ⟨f_nlt rfl (by decide) q1, f_nlt (by decide) rfl q2⟩
theorem fig_dec : ∀ n : Fin 5, (J_X2_figures 0 (Int32.ofNat n.val)).toInt = 2 ^ (n.val + 1) - 1 := by decide +kernel
theorem fig_t {r q : Int32} (w : r = J_X2_figures 0 q) (h : -1 ≤ q.toInt ∧ q.toInt ≤ 4) : 0 ≤ r.toInt ∧ r.toInt ≤ 31 ∧ (2 < q.toInt ∨ r.toInt ≤ 7) := by
  by_cases hq : q.toInt = -1
  · have e : q = -1 := Int32.toInt_inj.mp (hq.trans (by decide))
    subst e; subst w
    exact ⟨by decide, by decide, Or.inr (by decide)⟩
  · obtain ⟨n, hn, rfl⟩ := nI_of2 (x := q) (M := 4) (n := 4) (by decide) (fun q => by have := Int32.lt_iff_toInt_lt.mp q; simp at this; omega) (Int32.le_iff_toInt_le.mpr (by simpa using h.2))
    have e : (nI n).toInt = (n : Int) := nI_toInt (by omega)
    have := fig_dec ⟨n, by omega⟩
    rw [w, e]
    have e2 : J_X2_figures 0 (Int32.ofNat n) = J_X2_figures 0 (nI n) := rfl
    simp only [e2] at this
    have h4 : n = 0 ∨ n = 1 ∨ n = 2 ∨ n = 3 ∨ n = 4 := by omega
    rcases h4 with rfl | rfl | rfl | rfl | rfl <;> · simp at this; omega
theorem tells_b {r x : Int32} (w : r = J_X5_tellsWhich x) : 0 ≤ r.toInt ∧ r.toInt ≤ 1 := by
  subst w; unfold J_X5_tellsWhich; repeat' split
  all_goals decide
theorem second_b {r x : Int32} (w : r = J_X5_hasSecond x) : 0 ≤ r.toInt ∧ r.toInt ≤ 1 := by
  subst w; unfold J_X5_hasSecond; repeat' split
  all_goals decide
theorem tells_f {r x : Int32} (w : r = J_X5_tellsWhich x) (c : r = 0) : ¬ x.toInt = 87 ∧ ¬ x.toInt = 79 ∧ ¬ x.toInt = 81 ∧ ¬ x.toInt = 68 := by
  subst w
  unfold J_X5_tellsWhich at c
  repeat' split at c
  all_goals first | exact absurd c (by decide) | skip
  rename_i q1 q2 q3 q4
  exact ⟨f_ne rfl (by decide) q1, f_ne rfl (by decide) q2, f_ne rfl (by decide) q3, f_ne rfl (by decide) q4⟩
theorem second_f {r x : Int32} (w : r = J_X5_hasSecond x) (c : r = 0) : ¬ x.toInt = 66 := by
  subst w
  unfold J_X5_hasSecond at c
  repeat' split at c
  all_goals first | exact absurd c (by decide) | skip
  rename_i q1 q2
  exact f_ne rfl (by decide) q2
theorem ff_t {r x : Int32} (w : r = J_X5_firstFigures x) : (x.toInt = 72 ∧ r.toInt = 30) ∨ (x.toInt = 79 ∧ r.toInt = 31) ∨ (x.toInt = 81 ∧ r.toInt = 63) ∨ (¬ x.toInt = 72 ∧ ¬ x.toInt = 79 ∧ ¬ x.toInt = 81 ∧ r.toInt = 1023) := by
  subst w
  unfold J_X5_firstFigures
  by_cases q : x = 72
  · rw [if_pos q]; exact Or.inl ⟨f_eq rfl (by decide) q, by decide⟩
  · rw [if_neg q]
    by_cases q2 : x = 79
    · rw [if_pos q2]; exact Or.inr (Or.inl ⟨f_eq rfl (by decide) q2, by decide⟩)
    · rw [if_neg q2]
      by_cases q3 : x = 81
      · rw [if_pos q3]; exact Or.inr (Or.inr (Or.inl ⟨f_eq rfl (by decide) q3, by decide⟩))
      · rw [if_neg q3]; exact Or.inr (Or.inr (Or.inr ⟨f_ne rfl (by decide) q, f_ne rfl (by decide) q2, f_ne rfl (by decide) q3, by decide⟩))
theorem sf_t {r x : Int32} (w : r = J_X5_secondFigures x) : (x.toInt = 66 ∧ r.toInt = 63) ∨ (¬ x.toInt = 66 ∧ r.toInt = 1023) := by
  subst w
  unfold J_X5_secondFigures
  by_cases q : x = 66
  · rw [if_pos q]; exact Or.inl ⟨f_eq rfl (by decide) q, by decide⟩
  · rw [if_neg q]; exact Or.inr ⟨f_ne rfl (by decide) q, by decide⟩
theorem place_t {r w k c : Int32} (e : r = J_X6_place w k c) (hw : 0 ≤ w.toInt ∧ w.toInt ≤ 5) (hk : 0 ≤ k.toInt ∧ k.toInt ≤ 34) (hc : 0 ≤ c.toInt ∧ c.toInt ≤ 2) : r.toInt = (w.toInt * 3 + c.toInt) * 35 + k.toInt := by
  have h1 : (w * 3).toInt = w.toInt * 3 := i_mul rfl (by decide) (by omega) (by omega)
  have h2 := i_add h1 (rfl : c.toInt = c.toInt) (by omega) (by omega)
  have h3 : ((w * 3 + c) * 35).toInt = (w.toInt * 3 + c.toInt) * 35 := i_mul h2 (by decide) (by omega) (by omega)
  rw [e]; exact i_add h3 rfl (by omega) (by omega)
theorem nar_c {v : Int32} (h : 0 ≤ v.toInt ∧ v.toInt ≤ 255) : narrow .char (.int v) = .int v := by
  obtain ⟨n, hn, rfl⟩ := nI_of2 (x := v) (M := 255) (n := 255) (by decide) (fun q => by have := Int32.lt_iff_toInt_lt.mp q; simp at this; omega) (Int32.le_iff_toInt_le.mpr (by simpa using h.2))
  have : ∀ n : Fin 256, (Int32.ofNat n.val).toUInt32.toUInt16.toUInt32.toInt32 = Int32.ofNat n.val := by decide +kernel
  exact congrArg Value.int (this ⟨n, by omega⟩)
theorem chr_dec : ∀ i : Fin 3, ∀ j : Fin 7, j.val < zLEN.getD i.val 0 → (65 ≤ ((((zBYT.getD i.val []).getD j.val 0) &&& 255).toUInt32 % 65536).toInt32.toInt ∧ ((((zBYT.getD i.val []).getD j.val 0) &&& 255).toUInt32 % 65536).toInt32.toInt ≤ 90) ∧ (¬ i.val = 1 ∨ ((((zBYT.getD i.val []).getD j.val 0) &&& 255).toUInt32 % 65536).toInt32.toInt = 87 ∨ ((((zBYT.getD i.val []).getD j.val 0) &&& 255).toUInt32 % 65536).toInt32.toInt = 79) := by decide +kernel
theorem chr_t {i n : Nat} {x v w r : Int32} (hi : i < 3) (hn : zLEN.getD i 0 = n) (hx : 0 ≤ x.toInt ∧ x.toInt < (n : Int)) (hn7 : n ≤ 7) (e1 : v = (zBYT.getD i []).getD x.toNatClampNeg 0) (e2 : w = v &&& 255) (e3 : r = (w.toUInt32 % 65536).toInt32) : (65 ≤ r.toInt ∧ r.toInt ≤ 90) ∧ (¬ i = 1 ∨ r.toInt = 87 ∨ r.toInt = 79) := by
  have hj : x.toNatClampNeg < n := by show x.toInt.toNat < n; omega
  have := chr_dec ⟨i, hi⟩ ⟨x.toNatClampNeg, by omega⟩ (by show x.toNatClampNeg < zLEN.getD i 0; rw [hn]; exact hj)
  rw [e3, e2, e1]
  exact this
theorem CU_add {old d pl mul val : Int64} {parts : Int32} {h : Int} {i kd : Nat} (e1 : old = 0 ∨ totN i ≤ h) (su : parts = 0 ∨ totN i ≤ totN kd) (tc : totN kd ≤ h) (e2 : pl = parts.toInt64) (e3 : mul = d * pl) (e4 : val = old + mul) : val = 0 ∨ totN i ≤ h := by
  by_cases q : totN i ≤ h
  · exact Or.inr q
  · left
    have a : old = 0 := e1.resolve_right q
    have b : parts = 0 := su.resolve_right (by omega)
    rw [e4, e3, e2, a, b]
    show (0 : Int64) + d * (0 : Int32).toInt64 = 0
    rw [show (0 : Int32).toInt64 = 0 from rfl, Int64.mul_zero, Int64.add_zero]
theorem atm_v {r h m : Int32} (w : r = J_X3_areAtMost h m) (c : ¬ r = 0) (hm : m.toInt ≤ 4) : (0 ≤ h.toInt ∧ h.toInt ≤ 400 ∧ tot h ≤ 4) ∧ tot h ≤ m.toInt := by
  have k := atm_t w c
  have k2 : tot h ≤ m.toInt := k.2.2
  have k3 : h.toInt / 100 + h.toInt / 10 % 10 + h.toInt % 10 ≤ 4 := Int.le_trans k.2.2 hm
  have k0 := k.1
  clear k w c
  exact ⟨⟨k0, by omega, k3⟩, k2⟩
