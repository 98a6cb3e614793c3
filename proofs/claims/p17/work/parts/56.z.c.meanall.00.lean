/-! the mean, by the class: forward; what is paid so far and what is to come stay the same together -/
theorem scn_1 : ∀ (n : Nat) (s : Int64), SCN n s = s * SCN n 1
  | 0, s => (Int64.mul_one s).symm
  | n + 1, s => by
    show SCN n (s * 625) = s * SCN n (1 * 625)
    rw [scn_1 n (s * 625), scn_1 n (1 * 625), Int64.one_mul, Int64.mul_assoc]
def AVK (sh : Nat → Nat → Int32) (A : Nat → Int64) : Prop := ∀ k, k < 35 → ¬ A k = 0 → tot (zALL.getD k 0) ≤ (sh 0 1).toInt
theorem nAL_lt : ∀ k : Fin 35, nAL k.val < 900 := by decide
theorem nk_v {k : Nat} (hk : k < 35) : Int32.ofNat (nAL k) = zALL.getD k 0 := (ak hk).2.2.1.symm
theorem ihk {sh sm : Nat → Nat → Int32} {tm : Nat → Nat → Int64} {b : Nat} (K : HOK sh sm) (hb : b < 15) : J_X12_isHands sm tm (Int32.ofNat (nAL b)) = 0 ↔ (sh 0 1).toInt < tot (zALL.getD b 0) := by
  obtain ⟨a1, a2⟩ := al5 hb
  rw [ih50 K a1, (ak (k := b) (by omega)).2.1, a2]
/-- what leads on, by kinds -/
theorem onT_k {sh sm : Nat → Nat → Int32} {tm : Nat → Nat → Int64} {V : Nat → Int64} {th : Int32} (K : HOK sh sm) (T : TBL sh) (hh : 0 ≤ th.toInt ∧ th.toInt ≤ 400 ∧ tot th ≤ 4) (ht : tot th ≤ (sh 0 1).toInt) : SML (onT sm tm V th) 50 0 = SML (fun b => (sh 5 (15 * (J_X3_kind th).toNatClampNeg + b)).toInt64 * V (nAL b)) 15 0 := by
  have hk4 := K.2.2.2.1
  rw [sml_15 (g := onT sm tm V th) (fun x hx h => if_pos ((ih50 K hx).mpr (by omega)))]
  refine sml_c 15 0 (fun b _ hb => ?_)
  have hb : b < 15 := by omega
  obtain ⟨k1, k2⟩ := kd_t hh
  unfold onT
  by_cases c : J_X12_isHands sm tm (Int32.ofNat (nAL b)) = 0
  · have c2 := (ihk K hb).mp c
    have a3 := (ak (k := b) (by omega)).2.1
    have z := sd_n K T k1 hb
    rw [tbN_0 k1 (by omega)] at z
    rw [if_pos c, l0 z, Int64.zero_mul]
  · rw [if_neg c, nk_v (by omega), ← sd_v (tm := tm) K T hh hb]
