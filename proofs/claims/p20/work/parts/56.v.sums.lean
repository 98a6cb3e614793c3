/-! sums over hands behind a Sunday -/
theorem kd_dec : ∀ n : Fin 401, n.val / 100 + n.val / 10 % 10 + n.val % 10 ≤ 4 → zALL.getD (J_X3_kind (Int32.ofNat n.val)).toNatClampNeg 0 = Int32.ofNat n.val ∧ (J_X3_kind (Int32.ofNat n.val)).toNatClampNeg < 35 := by decide +kernel
theorem kd_v {h : Int32} (hh : 0 ≤ h.toInt ∧ h.toInt ≤ 400 ∧ tot h ≤ 4) : zALL.getD (J_X3_kind h).toNatClampNeg 0 = h ∧ (J_X3_kind h).toNatClampNeg < 35 := by
  obtain ⟨n, hn, rfl⟩ := nat_of (N := 400) (x := h) ⟨hh.1, hh.2.1⟩
  have e : (Int32.ofNat n).toInt = (n : Int) := ofn_t (by omega)
  have t : tot (Int32.ofNat n) = (n : Int) / 100 + (n : Int) / 10 % 10 + (n : Int) % 10 := by unfold tot; rw [e]
  have h3 := hh.2.2
  rw [t] at h3
  exact kd_dec ⟨n, by omega⟩ (by show n / 100 + n / 10 % 10 + n % 10 ≤ 4; omega)
theorem sml_split {f : Nat → Int64} {b : Nat} : ∀ (a i : Nat), SML f (a + b) i = SML f a i + SML f b (i + a)
  | 0, i => by
    rw [Nat.zero_add]
    show SML f b i = 0 + SML f b (i + 0)
    rw [Int64.zero_add, Nat.add_zero]
  | a + 1, i => by
    rw [show a + 1 + b = (a + b) + 1 from by omega, sml_s, sml_s, sml_split a (i + 1), Int64.add_assoc, show i + 1 + a = i + (a + 1) from by omega]
theorem sml_15 {g : Nat → Int64} (h : ∀ x, x < 50 → 4 < x / 10 + x % 10 → g x = 0) : SML g 50 0 = SML (fun b => g (nAL b)) 15 0 := by
  have s : ∀ (n i : Nat), (∀ x, i ≤ x → x < i + n → x < 50 ∧ 4 < x / 10 + x % 10) → SML g n i = 0 := fun n i q => sml_z n i (fun j h1 h2 => h j (q j h1 h2).1 (q j h1 h2).2)
  have e : SML g 50 0 = SML g 5 0 + (SML g 5 5 + (SML g 4 10 + (SML g 6 14 + (SML g 3 20 + (SML g 7 23 + (SML g 2 30 + (SML g 8 32 + (SML g 1 40 + SML g 9 41)))))))) := by
    rw [← sml_split (b := 9) 1 40, ← sml_split (b := 1 + 9) 8 32, ← sml_split (b := 8 + (1 + 9)) 2 30, ← sml_split (b := 2 + (8 + (1 + 9))) 7 23, ← sml_split (b := 7 + (2 + (8 + (1 + 9)))) 3 20, ← sml_split (b := 3 + (7 + (2 + (8 + (1 + 9))))) 6 14, ← sml_split (b := 6 + (3 + (7 + (2 + (8 + (1 + 9)))))) 4 10, ← sml_split (b := 4 + (6 + (3 + (7 + (2 + (8 + (1 + 9))))))) 5 5, ← sml_split (b := 5 + (4 + (6 + (3 + (7 + (2 + (8 + (1 + 9)))))))) 5 0]
  rw [e, s 5 5 (fun x h1 h2 => by omega), s 6 14 (fun x h1 h2 => by omega), s 7 23 (fun x h1 h2 => by omega), s 8 32 (fun x h1 h2 => by omega), s 9 41 (fun x h1 h2 => by omega)]
  show (g 0 + (g 1 + (g 2 + (g 3 + (g 4 + 0))))) + (0 + ((g 10 + (g 11 + (g 12 + (g 13 + 0)))) + (0 + ((g 20 + (g 21 + (g 22 + 0))) + (0 + ((g 30 + (g 31 + 0)) + (0 + ((g 40 + 0) + 0)))))))) = g 0 + (g 1 + (g 2 + (g 3 + (g 4 + (g 10 + (g 11 + (g 12 + (g 13 + (g 20 + (g 21 + (g 22 + (g 30 + (g 31 + (g 40 + 0))))))))))))))
  simp only [Int64.add_zero, Int64.zero_add, Int64.add_assoc]
