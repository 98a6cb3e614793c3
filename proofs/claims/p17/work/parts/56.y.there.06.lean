theorem th_2 {sm : Nat → Nat → Int32} {tm : Nat → Nat → Int64} {p0 p1 p2 p3 y6 y13 : Int32} {y : (Nat → Int64) × (Nat → Int64)} : B_X12_there_57_2 sm tm p0 p1 p2 p3 y6 y13 y = B_X12_there_57 sm tm p0 p1 p2 p3 y6 y13 y := rfl
theorem tlk_1 {A B : Int64} {x W : Nat} (hA : A.toInt = ((x : Nat) : Int)) (hB : B.toInt = ((625 ^ W : Nat) : Int)) (hW : W ≤ 5) : TLK A B A B :=
  ⟨1, x, 625 ^ W, 4 * W, by decide, Nat.pow_pos (by decide), hA, hB, by rw [Nat.one_mul]; exact hA, by rw [Nat.one_mul]; exact hB, by rw [Nat.one_mul, Nat.pow_mul], by omega⟩
theorem ta_dec : ∀ b : Fin 15, J_X3_total (zALL.getD b.val 0) = J_X12_all (Int32.ofNat (nAL b.val)) := by decide +kernel
/-- sums over who is there, both sides -/
theorem ahk_s {sh : Nat → Nat → Int32} {A l f g : Nat → Int64} {W : Nat} (H : AHK sh A l W) (hk : (sh 0 1).toInt ≤ 4) (hf : ∀ k, k < 35 → A k = 0 → f k = 0) (hg : ∀ x, x < 50 → l x = 0 → g x = 0) (hfg : ∀ b, b < 15 → ¬ A b = 0 → f b = g (nAL b)) : SML f 35 0 = SML g 50 0 := by
  obtain ⟨h1, h2, h3, h4⟩ := H
  rw [sml_35 (fun k q1 q2 => hf k q2 (h2 k q1 q2)), sml_15 (fun x q1 q2 => hg x q1 (h3 x q1 (by omega)))]
  refine sml_c 15 0 (fun b _ hb => ?_)
  by_cases q : A b = 0
  · rw [hf b (by omega) q, hg _ (al5 (b := b) (by omega)).1 (by rw [← h1 b (by omega)]; exact q)]
  · exact hfg b (by omega) q
