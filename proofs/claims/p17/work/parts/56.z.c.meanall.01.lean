theorem mj_1 {a b c : Int64} : a * (b * c) = (a * b) * c := (Int64.mul_assoc a b c).symm
/-- one WEEK -/
theorem ge_st {sx sh sm : Nat → Nat → Int32} {tm : Nat → Nat → Int64} {r c : Int32} {v n W : Nat} {A P G : Nat → Int64} {cs : Int64} (K : HOK sh sm) (hL : LVL (sx 1) (sm 4)) (hr : 0 ≤ r.toInt ∧ r.toInt ≤ 2) (hc : 0 ≤ c.toInt ∧ c.toInt ≤ 2) (T : TBL sh) (hW : (sh 0 0).toInt = (W : Int)) (hv : v + (n + 1) = W) (HA : AVK sh A)
    (p2 : ∀ x, x < 35 → P x = SML (wD sh (Int32.ofNat v) (J_X11_levelBy sx r (Int32.ofNat v)) A x) 35 0) (g2 : ∀ x, x < 15 → G x = SML (fun k => P k * (sh 5 (15 * k + x)).toInt64) 35 0) (g3 : ∀ x, 15 ≤ x → x < 35 → G x = 0) :
    AVK sh G ∧ ((cs + SML (wC sh (Int32.ofNat v) (J_X11_levelBy sx r (Int32.ofNat v)) c A) 35 0) * 625) * SCN n 1 + SML (fun k => G k * VAL sm tm r W n 0 (nAL k)) 35 0 = cs * SCN (n + 1) 1 + SML (fun k => A k * VAL sm tm r W (n + 1) c (nAL k)) 35 0 := by
  have wk := K.2.2.1
  have vt : (Int32.ofNat v).toInt = (v : Int) := ofn_t (by omega)
  have V0 : (sm 2) (0 : Int32).toNatClampNeg = sh 0 0 := by rw [n0_]; exact K.1.1
  have w0 : sh 0 0 = Int32.ofNat W := Int32.toInt_inj.mp (by rw [hW, ofn_t (by omega)])
  have rv : ∀ k, k < 35 → ¬ A k = 0 → _ := fun k hk q => rule_v (sx := sx) (tm := tm) (r := r) (w := Int32.ofNat v) (c := c) (h := zALL.getD k 0) K hL hr ⟨by omega, by omega⟩ hc (ak hk).1 (HA k hk q)
  have kr : ∀ k, k < 35 → ¬ A k = 0 → kx sh (Int32.ofNat v) (J_X11_levelBy sx r (Int32.ofNat v)) k < 35 := fun k hk q => (kd_t (rv k hk q).2.1.1).1
  have gv : ∀ x, x < 15 → G x = SML (fun k => A k * (sh 5 (15 * kx sh (Int32.ofNat v) (J_X11_levelBy sx r (Int32.ofNat v)) k + x)).toInt64) 35 0 := fun x hx => wk_v p2 g2 kr x hx
  refine ⟨fun k hk q => ?_, ?_⟩
  · by_cases c15 : k < 15
    · by_cases z : tot (zALL.getD k 0) ≤ (sh 0 1).toInt
      · exact z
      · refine absurd ?_ q
        rw [gv k c15]
        refine sml_z 35 0 (fun i _ hi => ?_)
        by_cases a0 : A i = 0
        · rw [a0, Int64.zero_mul]
        · obtain ⟨_, ⟨q1, q2⟩, _⟩ := rv i (by omega) a0
          obtain ⟨k1, k2⟩ := kd_t q1
          have a3 := (ak (k := k) hk).2.1
          have s := sd_n K T k1 c15
          rw [tbN_0 k1 (by omega)] at s
          show A i * (sh 5 (15 * (J_X3_kind (zALL.getD i 0 + 100 * J_X4_takenByLevel sh (Int32.ofNat v) (zALL.getD i 0) (J_X11_levelBy sx r (Int32.ofNat v)))).toNatClampNeg + k)).toInt64 = 0
          rw [l0 s, Int64.mul_zero]
    · exact absurd (g3 k (by omega) hk) q
  · -- what is to come
    have e1 : SML (fun k => G k * VAL sm tm r W n 0 (nAL k)) 35 0 = SML (fun k => A k * SML (onT sm tm (VAL sm tm r W n 0) (thR sm tm r (Int32.ofNat v) (nAL k))) 50 0) 35 0 := by
      rw [sml_35 (fun k q1 q2 => by rw [g3 k q1 q2, Int64.zero_mul])]
      have e2 : SML (fun k => G k * VAL sm tm r W n 0 (nAL k)) 15 0 = SML (fun b => SML (fun k => A k * (sh 5 (15 * kx sh (Int32.ofNat v) (J_X11_levelBy sx r (Int32.ofNat v)) k + b)).toInt64 * VAL sm tm r W n 0 (nAL b)) 35 0) 15 0 := sml_c 15 0 (fun b _ hb => by rw [gv b (by omega), ← sml_mul])
      rw [e2, sml_fub]
      refine sml_c 35 0 (fun k _ hk => ?_)
      by_cases a0 : A k = 0
      · rw [a0, Int64.zero_mul]
        exact sml_z 15 0 (fun b _ _ => by rw [Int64.zero_mul, Int64.zero_mul])
      · obtain ⟨q1, ⟨q2, q3⟩, _⟩ := rv k (by omega) a0
        have et : thR sm tm r (Int32.ofNat v) (nAL k) = kp sh (Int32.ofNat v) (J_X11_levelBy sx r (Int32.ofNat v)) k := by
          unfold thR
          rw [nk_v (by omega)]
          exact q1
        rw [et, onT_k (V := VAL sm tm r W n 0) (th := kp sh (Int32.ofNat v) (J_X11_levelBy sx r (Int32.ofNat v)) k) K T q2 q3, Int64.mul_comm (A k), ← sml_mul]
        refine sml_c 15 0 (fun b _ _ => ?_)
        show A k * (sh 5 (15 * kx sh (Int32.ofNat v) (J_X11_levelBy sx r (Int32.ofNat v)) k + b)).toInt64 * VAL sm tm r W n 0 (nAL b) = (sh 5 (15 * kx sh (Int32.ofNat v) (J_X11_levelBy sx r (Int32.ofNat v)) k + b)).toInt64 * VAL sm tm r W n 0 (nAL b) * A k
        rw [Int64.mul_comm _ (A k), Int64.mul_assoc]
    -- what is paid
    have e3 : SML (fun k => A k * VAL sm tm r W (n + 1) c (nAL k)) 35 0 = SML (wC sh (Int32.ofNat v) (J_X11_levelBy sx r (Int32.ofNat v)) c A) 35 0 * SCN (n + 1) 1 + SML (fun k => A k * SML (onT sm tm (VAL sm tm r W n 0) (thR sm tm r (Int32.ofNat v) (nAL k))) 50 0) 35 0 := by
      rw [← sml_mul, ← sml_add]
      refine sml_c 35 0 (fun k _ hk => ?_)
      by_cases a0 : A k = 0
      · unfold wC
        rw [a0, Int64.zero_mul, Int64.zero_mul, Int64.zero_mul, Int64.zero_mul, Int64.add_zero]
      · obtain ⟨q1, _, q4, _⟩ := rv k (by omega) a0
        have et : thR sm tm r (Int32.ofNat v) (nAL k) = kp sh (Int32.ofNat v) (J_X11_levelBy sx r (Int32.ofNat v)) k := by
          unfold thR
          rw [nk_v (by omega)]
          exact q1
        have ec : J_X12_costOf sm tm (Int32.ofNat v) (kp sh (Int32.ofNat v) (J_X11_levelBy sx r (Int32.ofNat v)) k) c (J_X12_ruleAct sm tm r (Int32.ofNat v) (Int32.ofNat (nAL k))) = J_X4_weekCost sh (Int32.ofNat v) (kp sh (Int32.ofNat v) (J_X11_levelBy sx r (Int32.ofNat v)) k) c 0 := by
          rw [nk_v (by omega)]
          exact q4.symm
        have ep : J_X12_parts ((sm 2) (0 : Int32).toNatClampNeg - Int32.ofNat v) = SCN (n + 1) 1 := by
          rw [V0, w0, show Int32.ofNat W - Int32.ofNat v = Int32.ofNat (n + 1) from Int32.toInt_inj.mp (by rw [i_sub (ofn_t (k := W) (by omega)) vt (by omega) (by omega), ofn_t (by omega)]; omega)]
          exact (parts_v (by omega)).1
        have ev : VAL sm tm r W (n + 1) c (nAL k) = mnT sm tm r (Int32.ofNat v) c (VAL sm tm r W n 0) (nAL k) := by
          show mnT sm tm r (Int32.ofNat (W - (n + 1))) c (VAL sm tm r W n 0) (nAL k) = _
          rw [show W - (n + 1) = v from by omega]
        rw [ev]
        unfold mnT wC
        rw [et, ec, ep, Int64.mul_add, mj_1]
    have s1 : SCN (n + 1) 1 = SCN n 625 := by
      show SCN n (1 * 625) = _
      rw [Int64.one_mul]
    rw [e1, e3, Int64.mul_assoc, ← scn_1 n 625, s1, Int64.add_mul, Int64.add_assoc]
