theorem ahk_n {sh : Nat → Nat → Int32} {A l f : Nat → Int64} {W m : Nat} (H : AHK sh A l W) (hW : W ≤ 5) (hm : m ≤ 1000) (hf : ∀ k, k < 35 → A k = 0 → f k = 0) (hfn : ∀ b N, b < 15 → (A b).toInt = ((N : Nat) : Int) → N ≤ 95367431640625 → ∃ c : Nat, c ≤ m ∧ (f b).toInt = ((N * c : Nat) : Int)) : ∃ x : Nat, (SML f 35 0).toInt = ((x : Nat) : Int) := by
  obtain ⟨h1, h2, h3, N, h4, h5⟩ := H
  have b5 := p625 hW
  rw [sml_35 (fun k q1 q2 => hf k q2 (h2 k q1 q2))]
  have hN : ∀ b, b < 15 → N b ≤ 95367431640625 := fun b hb => Nat.le_trans (nsm_1le (f := N) (k := b) 15 0 (Nat.zero_le _) (by omega)) (Nat.le_trans h5 b5)
  have hc : ∀ b, b < 15 → ∃ c : Nat, c ≤ m ∧ (f b).toInt = ((N b * c : Nat) : Int) := fun b hb => hfn b (N b) hb (h4 b hb) (hN b hb)
  have e : ∀ b, b < 15 → (f b).toInt = (((f b).toInt.toNat : Nat) : Int) ∧ (f b).toInt.toNat ≤ N b * m := fun b hb => by
    obtain ⟨c, c1, c2⟩ := hc b hb
    rw [c2, Int.toNat_natCast]
    exact ⟨rfl, Nat.mul_le_mul (Nat.le_refl _) c1⟩
  refine ⟨NSM (fun b => (f b).toInt.toNat) 15 0, sml_n 15 0 (fun b _ hb => (e b (by omega)).1) ?_⟩
  have s1 := nsm_le (f := fun b => (f b).toInt.toNat) (g := fun b => N b * m) 15 0 (fun b _ hb => (e b (by omega)).2)
  rw [nsm_mul] at s1
  have s2 := Nat.mul_le_mul (Nat.le_trans h5 b5) hm
  exact Nat.le_trans s1 (Nat.le_trans s2 (by decide))

