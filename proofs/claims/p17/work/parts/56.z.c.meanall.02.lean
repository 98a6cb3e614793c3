theorem pb_v {sco sh : Nat → Nat → Int32} {tco : Nat → Nat → Int64} : ∀ (n k : Nat) (s : Int64), k + n = 35 → LTs default (B_X1_payBonus_2 sco tco sh) (n + 1) (Int32.ofNat k, s) = s + SML (fun k => tco 1 k * (J_X4_bonusFor sh (zALL.getD k 0)).toInt64) n k
  | 0, k, s, h => by
    have e : k = 35 := by omega
    subst e
    have e2 : B_X1_payBonus_2 sco tco sh (Int32.ofNat 35, s) = Sum.inr s := rfl
    rw [LT_en e2]
    exact (Int64.add_zero s).symm
  | n + 1, k, s, h => by
    have ck : ¬ (35 : Int32) ≤ Int32.ofNat k := fun q => by have := f_le (by decide : (35 : Int32).toInt = 35) (ofn_t (k := k) (by omega)) q; omega
    have ek : (Int32.ofNat k).toNatClampNeg = k := ofn_c (by omega)
    have e2 : B_X1_payBonus_2 sco tco sh (Int32.ofNat k, s) = Sum.inl (Int32.ofNat k + 1, s + tco 1 (Int32.ofNat k).toNatClampNeg * (J_X4_bonusFor sh (zALL.getD (Int32.ofNat k).toNatClampNeg 0)).toInt64) := by
      unfold B_X1_payBonus_2
      try dsimp only [LetF]
      exact if_neg ck
    rw [ek] at e2
    rw [LT_st e2, ofn_s (by omega), pb_v n (k + 1) _ (by omega), sml_s, Int64.add_assoc]
def geF (sh : Nat → Nat → Int32) (sc : Int64) (A : Nat → Int64) (v : Int32) (Q : (Nat → Int64) × Int64 × Int64 × Int64) : Sum (Int32 × Int64 × Int64 × Int64 × Int64 × (Nat → Int64) × (Nat → Int64)) ((Nat → Int64) × (Nat → Int64) × Int64 × Int64 × Int64 × Int64) := (fun S : (Nat → Int64) × Int64 × Int64 => (Sum.inl (v + 1, S.2.1, S.2.2, Q.2.2.1, Q.2.2.2, S.1, Q.1) : Sum (Int32 × Int64 × Int64 × Int64 × Int64 × (Nat → Int64) × (Nat → Int64)) ((Nat → Int64) × (Nat → Int64) × Int64 × Int64 × Int64 × Int64))) (J_X1_passSunday SC0 (lT [(lJ [0, 0, sc, Q.2.1, Q.2.2.1, Q.2.2.2]), A, Q.1]) (SHX sh))
set_option maxHeartbeats 4000000 in
theorem ge_1 {sx sh sco : Nat → Nat → Int32} {tco : Nat → Nat → Int64} {r p1 p2 p3 v : Int32} {y8 : (Nat → Int64) × Int64 × Int64} {sc cs ss si : Int64} {A D : Nat → Int64} (c : ¬ sh 0 0 ≤ v) (q : v = p1) : B_X11_goToTheEnd_11 sx sh sco tco r p1 p2 p3 y8 (v, sc, cs, ss, si, A, D) = geF sh sc A v (J_X1_passWeek SC0 (lT [(lJ [0, 0, sc, cs, ss, si]), A, D]) (SHX sh) v (J_X11_levelBy sx r v) p3) := (if_neg c).trans (if_pos q)
