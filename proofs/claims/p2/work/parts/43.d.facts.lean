theorem tot_add {h v : Int32} {t hook : Int} (hh : 0 ≤ h.toInt ∧ h.toInt ≤ 400 ∧ tot h ≤ 4) (ht : 0 ≤ t) (c : t ≤ hook - tot h) (hk : hook ≤ 4) (e : v.toInt = h.toInt + 100 * t) : (0 ≤ v.toInt ∧ v.toInt ≤ 400 ∧ tot v ≤ 4) ∧ tot v ≤ hook := by
  unfold tot at *
  obtain ⟨x, y, z, hx, h0, hy, hz, e1, e2, e3⟩ := dgo h.toInt hh.1
  rw [e1, e2, e3] at hh c
  clear e1 e2 e3
  obtain ⟨f1, f2, f3⟩ := dgi (show v.toInt = 100 * (x + t) + 10 * y + z by omega) hy hz
  rw [f1, f2, f3]
  refine ⟨⟨by omega, by omega, by omega⟩, by omega⟩
