theorem parts_v {W : Nat} (hW : W ≤ 5) : J_X12_parts (Int32.ofNat W) = SCN W 1 ∧ (SCN W 1).toInt = ((625 ^ W : Nat) : Int) := by
  have e : (Int.toNat (Int32.ofNat W).toInt) = W := by rw [ofn_t (by omega)]; rfl
  refine ⟨?_, ?_⟩
  · show LTs default (B_X12_parts_4 (Int32.ofNat W)) (Int.toNat (Int32.ofNat W).toInt + 1) ((0 : Int32), (1 : Int64)) = _
    rw [e]
    exact pts_v hW W 0 1 (by omega)
  · have z := scn_v W 0 1 (by decide) (by omega)
    rw [Nat.zero_add] at z; exact z
theorem ahk_c {sh : Nat → Nat → Int32} {A l L : Nat → Int64} {n : Nat} (H : AHK sh A l n) (h : ∀ x, x < 50 → L x = l x) : AHK sh A L n := by
  obtain ⟨h1, h2, h3, h4⟩ := H
  exact ⟨fun b hb => by rw [h _ (al5 hb).1]; exact h1 b hb, h2, fun x hx q => by rw [h x hx]; exact h3 x hx q, h4⟩
/-- who is there may be there -/
theorem ahk_t {sh : Nat → Nat → Int32} {A l : Nat → Int64} {n k : Nat} (H : AHK sh A l n) (hk : k < 35) (h : ¬ A k = 0) : k < 15 ∧ tot (zALL.getD k 0) ≤ (sh 0 1).toInt := by
  obtain ⟨h1, h2, h3, h4⟩ := H
  by_cases q : k < 15
  · obtain ⟨a1, a2⟩ := al5 q
    have a3 := (ak (k := k) (by omega)).2.1
    refine ⟨q, ?_⟩
    by_cases z : (sh 0 1).toInt < ((nAL k / 10 + nAL k % 10 : Nat) : Int)
    · exact absurd ((h1 k q).trans (h3 _ a1 z)) h
    · rw [a3, a2]; omega
  · exact absurd (h2 k (by omega) hk) h
