theorem lm_v {sm : Nat → Nat → Int32} {tm : Nat → Nat → Int64} {p0 p2 p3 : Int32} {W P : Nat} (hs : (sm 2) (0 : Int32).toNatClampNeg = Int32.ofNat W) (hW : W ≤ 5) (hP : P ≤ W) (h2 : p2.toNatClampNeg < 500 ∧ ¬ J_X12_isHands sm tm (Int32.ofNat p2.toNatClampNeg) = 0) : (J_X12_layMean sm tm p0 (Int32.ofNat P) p2 p3).1 = VAL sm tm p0 W (W - P) p3 p2.toNatClampNeg := by
  obtain ⟨A, B, r1⟩ := mn_i (sm := sm) (tm := tm) (p0 := p0) (p2 := p2) (p3 := p3) hs hW hP (fun x hx => by rw [hx]; exact h2) 1000 0 (tm 6) rfl (fun x hx => by omega)
  have e : J_X12_layMean sm tm p0 (Int32.ofNat P) p2 p3 = LTs default (B_X12_layMean_3 sm tm p0 (Int32.ofNat P) p2 p3) 1001 ((0 : Int32), tm 6) := rfl
  rw [e]
  exact congrArg Prod.fst r1

