/-! how likely so many are there -/
theorem so_v {sco : Nat → Nat → Int32} {tco : Nat → Nat → Int64} {p : Int32} : ∀ (n k : Nat) (s : Int64), k + n = 35 → LTs default (B_X1_shareOf_5 sco tco p) (n + 1) (Int32.ofNat k, s) = s + SML (fun k => if J_X3_total (zALL.getD k 0) = p then tco 1 k else 0) n k
  | 0, k, s, h => by
    have e : k = 35 := by omega
    subst e
    have e2 : B_X1_shareOf_5 sco tco p (Int32.ofNat 35, s) = Sum.inr s := rfl
    rw [LT_en e2]
    exact (Int64.add_zero s).symm
  | n + 1, k, s, h => by
    have ck : ¬ (35 : Int32) ≤ Int32.ofNat k := fun q => by have := f_le (by decide : (35 : Int32).toInt = 35) (ofn_t (k := k) (by omega)) q; omega
    have ek : (Int32.ofNat k).toNatClampNeg = k := ofn_c (by omega)
    rw [sml_s]
    by_cases q : J_X3_total (zALL.getD k 0) = p
    · have e2 : B_X1_shareOf_5 sco tco p (Int32.ofNat k, s) = Sum.inl (Int32.ofNat k + 1, s + tco 1 (Int32.ofNat k).toNatClampNeg) := by
        unfold B_X1_shareOf_5
        try dsimp only [LetF]
        exact (if_neg ck).trans (if_pos (by rw [ek]; exact q))
      rw [ek] at e2
      rw [LT_st e2, ofn_s (by omega), so_v n (k + 1) _ (by omega), if_pos q, Int64.add_assoc]
    · have e2 : B_X1_shareOf_5 sco tco p (Int32.ofNat k, s) = Sum.inl (Int32.ofNat k + 1, s) := by
        unfold B_X1_shareOf_5
        try dsimp only [LetF]
        exact (if_neg ck).trans (if_neg (by rw [ek]; exact q))
      rw [LT_st e2, ofn_s (by omega), so_v n (k + 1) _ (by omega), if_neg q, Int64.zero_add]
