/-! the mean, by the reference: week by week from the last back -/
theorem ofn_u {k : Nat} (h : k < 5000) : (Int32.ofNat k).toInt = (k : Int) := nI_toInt (by omega)
theorem ofn_cu {k : Nat} (h : k < 5000) : (Int32.ofNat k).toNatClampNeg = k := wn_k (ofn_u h)
theorem ofn_su {k : Nat} (h : k < 4000) : Int32.ofNat k + 1 = Int32.ofNat (k + 1) := Int32.toInt_inj.mp (by rw [ofn_u (by omega), i_add (ofn_u (by omega)) (by decide : (1 : Int32).toInt = 1) (by omega) (by omega)]; omega)
def onT (sm : Nat → Nat → Int32) (tm : Nat → Nat → Int64) (V : Nat → Int64) (th : Int32) (x : Nat) : Int64 := if J_X12_isHands sm tm (Int32.ofNat x) = 0 then 0 else (J_X12_sundayOf sm tm th (Int32.ofNat x)).toInt64 * V x
theorem on_v {sm : Nat → Nat → Int32} {tm : Nat → Nat → Int64} {th : Int32} : ∀ (n x : Nat) (s : Int64), x + n = 50 → LTs default (B_X12_onward_5 sm tm th) (n + 1) (Int32.ofNat x, s) = s + SML (onT sm tm (tm 6) th) n x
  | 0, x, s, h => by
    have e : x = 50 := by omega
    subst e
    have e2 : B_X12_onward_5 sm tm th (Int32.ofNat 50, s) = Sum.inr s := rfl
    rw [LT_en e2]
    exact (Int64.add_zero s).symm
  | n + 1, x, s, h => by
    have cx : ¬ (50 : Int32) ≤ Int32.ofNat x := fun q => by have := f_le (by decide : (50 : Int32).toInt = 50) (ofn_t (k := x) (by omega)) q; omega
    have ex : (Int32.ofNat x).toNatClampNeg = x := ofn_c (by omega)
    have e2 : B_X12_onward_5 sm tm th (Int32.ofNat x, s) = Sum.inl (Int32.ofNat x + 1, s + onT sm tm (tm 6) th x) := by
      unfold onT
      by_cases q : J_X12_isHands sm tm (Int32.ofNat x) = 0
      · have z : B_X12_onward_5 sm tm th (Int32.ofNat x, s) = Sum.inl (Int32.ofNat x + 1, s + 0) := by
          unfold B_X12_onward_5
          try dsimp only [LetF]
          exact (if_neg cx).trans (if_pos q)
        rw [z, if_pos q]
      · have z : B_X12_onward_5 sm tm th (Int32.ofNat x, s) = Sum.inl (Int32.ofNat x + 1, s + (J_X12_sundayOf sm tm th (Int32.ofNat x)).toInt64 * tm 6 (Int32.ofNat x).toNatClampNeg) := by
          unfold B_X12_onward_5
          try dsimp only [LetF]
          exact (if_neg cx).trans (if_neg q)
        rw [z, if_neg q, ex]
    rw [LT_st e2, ofn_s (by omega), on_v n (x + 1) _ (by omega), sml_s, Int64.add_assoc]
