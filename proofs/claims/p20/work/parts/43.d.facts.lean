theorem tot_add {h v : Int32} {t hook : Int} (hh : 0 ≤ h.toInt ∧ h.toInt ≤ 400 ∧ tot h ≤ 4) (ht : 0 ≤ t) (c : t ≤ hook - tot h) (hk : hook ≤ 4) (e : v.toInt = h.toInt + 100 * t) : (0 ≤ v.toInt ∧ v.toInt ≤ 400 ∧ tot v ≤ 4) ∧ tot v ≤ hook := by
  unfold tot at *
  obtain ⟨x, y, z, hx, h0, hy, hz, e1, e2, e3⟩ := dgo h.toInt hh.1
  rw [e1, e2, e3] at hh c
  clear e1 e2 e3
  obtain ⟨f1, f2, f3⟩ := dgi (show v.toInt = 100 * (x + t) + 10 * y + z by omega) hy hz
  rw [f1, f2, f3]
  refine ⟨⟨by omega, by omega, by omega⟩, by omega⟩
theorem fit_z {r : Int32} (h : 0 ≤ r.toInt ∧ r.toInt ≤ 1) : fits .boolean (.int r) = true := by
  have h2 : r = 0 ∨ r = 1 := by
    rcases (show r.toInt = 0 ∨ r.toInt = 1 by omega) with q | q
    · exact Or.inl (Int32.toInt_inj.mp q)
    · exact Or.inr (Int32.toInt_inj.mp q)
  rcases h2 with rfl | rfl <;> rfl
