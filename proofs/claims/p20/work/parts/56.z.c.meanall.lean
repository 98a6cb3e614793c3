/-! the mean, by the class: forward; what is paid so far and what is to come stay the same together -/
theorem scn_1 : ∀ (n : Nat) (s : Int64), SCN n s = s * SCN n 1
  | 0, s => (Int64.mul_one s).symm
  | n + 1, s => by
    show SCN n (s * 625) = s * SCN n (1 * 625)
    rw [scn_1 n (s * 625), scn_1 n (1 * 625), Int64.one_mul, Int64.mul_assoc]
def AVK (sh : Nat → Nat → Int32) (A : Nat → Int64) : Prop := ∀ k, k < 35 → ¬ A k = 0 → tot (zALL.getD k 0) ≤ (sh 0 1).toInt
theorem nAL_lt : ∀ k : Fin 35, nAL k.val < 900 := by decide
theorem nk_v {k : Nat} (hk : k < 35) : Int32.ofNat (nAL k) = zALL.getD k 0 := (ak hk).2.2.1.symm
theorem ihk {sh sm : Nat → Nat → Int32} {tm : Nat → Nat → Int64} {b : Nat} (K : HOK sh sm) (hb : b < 15) : J_X12_isHands sm tm (Int32.ofNat (nAL b)) = 0 ↔ (sh 0 1).toInt < tot (zALL.getD b 0) := by
  obtain ⟨a1, a2⟩ := al5 hb
  rw [ih50 K a1, (ak (k := b) (by omega)).2.1, a2]
/-- what leads on, by kinds -/
theorem onT_k {sh sm : Nat → Nat → Int32} {tm : Nat → Nat → Int64} {V : Nat → Int64} {th : Int32} (K : HOK sh sm) (T : TBL sh) (hh : 0 ≤ th.toInt ∧ th.toInt ≤ 400 ∧ tot th ≤ 4) (ht : tot th ≤ (sh 0 1).toInt) : SML (onT sm tm V th) 50 0 = SML (fun b => (sh 5 (15 * (J_X3_kind th).toNatClampNeg + b)).toInt64 * V (nAL b)) 15 0 := by
  have hk4 := K.2.2.2.1
  rw [sml_15 (g := onT sm tm V th) (fun x hx h => if_pos ((ih50 K hx).mpr (by omega)))]
  refine sml_c 15 0 (fun b _ hb => ?_)
  have hb : b < 15 := by omega
  obtain ⟨k1, k2⟩ := kd_t hh
  unfold onT
  by_cases c : J_X12_isHands sm tm (Int32.ofNat (nAL b)) = 0
  · have c2 := (ihk K hb).mp c
    have a3 := (ak (k := b) (by omega)).2.1
    have z := sd_n K T k1 hb
    rw [tbN_0 k1 (by omega)] at z
    rw [if_pos c, l0 z, Int64.zero_mul]
  · rw [if_neg c, nk_v (by omega), ← sd_v (tm := tm) K T hh hb]
theorem mj_1 {a b c : Int64} : a * (b * c) = (a * b) * c := (Int64.mul_assoc a b c).symm
/-- one WEEK -/
theorem ge_st {sx sh sm : Nat → Nat → Int32} {tm : Nat → Nat → Int64} {r c : Int32} {v n W : Nat} {A P G : Nat → Int64} {cs : Int64} (K : HOK sh sm) (hL : LVL (sx 1) (sm 4)) (hr : 0 ≤ r.toInt ∧ r.toInt ≤ 2) (hc : 0 ≤ c.toInt ∧ c.toInt ≤ 2) (T : TBL sh) (hW : (sh 0 0).toInt = (W : Int)) (hv : v + (n + 1) = W) (HA : AVK sh A)
    (p2 : ∀ x, x < 35 → P x = SML (wD sh (Int32.ofNat v) (J_X11_levelBy sx r (Int32.ofNat v)) A x) 35 0) (g2 : ∀ x, x < 15 → G x = SML (fun k => P k * (sh 5 (15 * k + x)).toInt64) 35 0) (g3 : ∀ x, 15 ≤ x → x < 35 → G x = 0) :
    AVK sh G ∧ ((cs + SML (wC sh (Int32.ofNat v) (J_X11_levelBy sx r (Int32.ofNat v)) c A) 35 0) * 625) * SCN n 1 + SML (fun k => G k * VAL sm tm r W n 0 (nAL k)) 35 0 = cs * SCN (n + 1) 1 + SML (fun k => A k * VAL sm tm r W (n + 1) c (nAL k)) 35 0 := by
  have wk := K.2.2.1
  have vt : (Int32.ofNat v).toInt = (v : Int) := ofn_t (by omega)
  have V0 : (sm 2) (0 : Int32).toNatClampNeg = sh 0 0 := by rw [n0_]; exact K.1.1
  have w0 : sh 0 0 = Int32.ofNat W := Int32.toInt_inj.mp (by rw [hW, ofn_t (by omega)])
  have rv : ∀ k, k < 35 → ¬ A k = 0 → _ := fun k hk q => rule_v (sx := sx) (tm := tm) (r := r) (w := Int32.ofNat v) (c := c) (h := zALL.getD k 0) K hL hr ⟨by omega, by omega⟩ hc (ak hk).1 (HA k hk q)
  have kr : ∀ k, k < 35 → ¬ A k = 0 → kx sh (Int32.ofNat v) (J_X11_levelBy sx r (Int32.ofNat v)) k < 35 := fun k hk q => (kd_t (rv k hk q).2.1.1).1
  have gv : ∀ x, x < 15 → G x = SML (fun k => A k * (sh 5 (15 * kx sh (Int32.ofNat v) (J_X11_levelBy sx r (Int32.ofNat v)) k + x)).toInt64) 35 0 := fun x hx => wk_v p2 g2 kr x hx
  refine ⟨fun k hk q => ?_, ?_⟩
  · by_cases c15 : k < 15
    · by_cases z : tot (zALL.getD k 0) ≤ (sh 0 1).toInt
      · exact z
      · refine absurd ?_ q
        rw [gv k c15]
        refine sml_z 35 0 (fun i _ hi => ?_)
        by_cases a0 : A i = 0
        · rw [a0, Int64.zero_mul]
        · obtain ⟨_, ⟨q1, q2⟩, _⟩ := rv i (by omega) a0
          obtain ⟨k1, k2⟩ := kd_t q1
          have a3 := (ak (k := k) hk).2.1
          have s := sd_n K T k1 c15
          rw [tbN_0 k1 (by omega)] at s
          show A i * (sh 5 (15 * (J_X3_kind (zALL.getD i 0 + 100 * J_X4_takenByLevel sh (Int32.ofNat v) (zALL.getD i 0) (J_X11_levelBy sx r (Int32.ofNat v)))).toNatClampNeg + k)).toInt64 = 0
          rw [l0 s, Int64.mul_zero]
    · exact absurd (g3 k (by omega) hk) q
  · -- what is to come
    have e1 : SML (fun k => G k * VAL sm tm r W n 0 (nAL k)) 35 0 = SML (fun k => A k * SML (onT sm tm (VAL sm tm r W n 0) (thR sm tm r (Int32.ofNat v) (nAL k))) 50 0) 35 0 := by
      rw [sml_35 (fun k q1 q2 => by rw [g3 k q1 q2, Int64.zero_mul])]
      have e2 : SML (fun k => G k * VAL sm tm r W n 0 (nAL k)) 15 0 = SML (fun b => SML (fun k => A k * (sh 5 (15 * kx sh (Int32.ofNat v) (J_X11_levelBy sx r (Int32.ofNat v)) k + b)).toInt64 * VAL sm tm r W n 0 (nAL b)) 35 0) 15 0 := sml_c 15 0 (fun b _ hb => by rw [gv b (by omega), ← sml_mul])
      rw [e2, sml_fub]
      refine sml_c 35 0 (fun k _ hk => ?_)
      by_cases a0 : A k = 0
      · rw [a0, Int64.zero_mul]
        exact sml_z 15 0 (fun b _ _ => by rw [Int64.zero_mul, Int64.zero_mul])
      · obtain ⟨q1, ⟨q2, q3⟩, _⟩ := rv k (by omega) a0
        have et : thR sm tm r (Int32.ofNat v) (nAL k) = kp sh (Int32.ofNat v) (J_X11_levelBy sx r (Int32.ofNat v)) k := by
          unfold thR
          rw [nk_v (by omega)]
          exact q1
        rw [et, onT_k (V := VAL sm tm r W n 0) (th := kp sh (Int32.ofNat v) (J_X11_levelBy sx r (Int32.ofNat v)) k) K T q2 q3, Int64.mul_comm (A k), ← sml_mul]
        refine sml_c 15 0 (fun b _ _ => ?_)
        show A k * (sh 5 (15 * kx sh (Int32.ofNat v) (J_X11_levelBy sx r (Int32.ofNat v)) k + b)).toInt64 * VAL sm tm r W n 0 (nAL b) = (sh 5 (15 * kx sh (Int32.ofNat v) (J_X11_levelBy sx r (Int32.ofNat v)) k + b)).toInt64 * VAL sm tm r W n 0 (nAL b) * A k
        rw [Int64.mul_comm _ (A k), Int64.mul_assoc]
    -- what is paid
    have e3 : SML (fun k => A k * VAL sm tm r W (n + 1) c (nAL k)) 35 0 = SML (wC sh (Int32.ofNat v) (J_X11_levelBy sx r (Int32.ofNat v)) c A) 35 0 * SCN (n + 1) 1 + SML (fun k => A k * SML (onT sm tm (VAL sm tm r W n 0) (thR sm tm r (Int32.ofNat v) (nAL k))) 50 0) 35 0 := by
      rw [← sml_mul, ← sml_add]
      refine sml_c 35 0 (fun k _ hk => ?_)
      by_cases a0 : A k = 0
      · unfold wC
        rw [a0, Int64.zero_mul, Int64.zero_mul, Int64.zero_mul, Int64.zero_mul, Int64.add_zero]
      · obtain ⟨q1, _, q4, _⟩ := rv k (by omega) a0
        have et : thR sm tm r (Int32.ofNat v) (nAL k) = kp sh (Int32.ofNat v) (J_X11_levelBy sx r (Int32.ofNat v)) k := by
          unfold thR
          rw [nk_v (by omega)]
          exact q1
        have ec : J_X12_costOf sm tm (Int32.ofNat v) (kp sh (Int32.ofNat v) (J_X11_levelBy sx r (Int32.ofNat v)) k) c (J_X12_ruleAct sm tm r (Int32.ofNat v) (Int32.ofNat (nAL k))) = J_X4_weekCost sh (Int32.ofNat v) (kp sh (Int32.ofNat v) (J_X11_levelBy sx r (Int32.ofNat v)) k) c 0 := by
          rw [nk_v (by omega)]
          exact q4.symm
        have ep : J_X12_parts ((sm 2) (0 : Int32).toNatClampNeg - Int32.ofNat v) = SCN (n + 1) 1 := by
          rw [V0, w0, show Int32.ofNat W - Int32.ofNat v = Int32.ofNat (n + 1) from Int32.toInt_inj.mp (by rw [i_sub (ofn_t (k := W) (by omega)) vt (by omega) (by omega), ofn_t (by omega)]; omega)]
          exact (parts_v (by omega)).1
        have ev : VAL sm tm r W (n + 1) c (nAL k) = mnT sm tm r (Int32.ofNat v) c (VAL sm tm r W n 0) (nAL k) := by
          show mnT sm tm r (Int32.ofNat (W - (n + 1))) c (VAL sm tm r W n 0) (nAL k) = _
          rw [show W - (n + 1) = v from by omega]
        rw [ev]
        unfold mnT wC
        rw [et, ec, ep, Int64.mul_add, mj_1]
    have s1 : SCN (n + 1) 1 = SCN n 625 := by
      show SCN n (1 * 625) = _
      rw [Int64.one_mul]
    rw [e1, e3, Int64.mul_assoc, ← scn_1 n 625, s1, Int64.add_mul, Int64.add_assoc]
theorem pb_v {sco sh : Nat → Nat → Int32} {tco : Nat → Nat → Int64} : ∀ (n k : Nat) (s : Int64), k + n = 35 → LTs default (B_X1_payBonus_2 sco tco sh) (n + 1) (Int32.ofNat k, s) = s + SML (fun k => tco 1 k * (J_X4_bonusFor sh (zALL.getD k 0)).toInt64) n k
  | 0, k, s, h => by
    have e : k = 35 := by omega
    subst e
    have e2 : B_X1_payBonus_2 sco tco sh (Int32.ofNat 35, s) = Sum.inr s := rfl
    rw [LT_en e2]
    exact (Int64.add_zero s).symm
  | n + 1, k, s, h => by
    have ck : ¬ (35 : Int32) ≤ Int32.ofNat k := fun q => by have := f_le (by decide : (35 : Int32).toInt = 35) (ofn_t (k := k) (by omega)) q; omega
    have ek : (Int32.ofNat k).toNatClampNeg = k := ofn_c (by omega)
    have e2 : B_X1_payBonus_2 sco tco sh (Int32.ofNat k, s) = Sum.inl (Int32.ofNat k + 1, s + tco 1 (Int32.ofNat k).toNatClampNeg * (J_X4_bonusFor sh (zALL.getD (Int32.ofNat k).toNatClampNeg 0)).toInt64) := by
      unfold B_X1_payBonus_2
      try dsimp only [LetF]
      exact if_neg ck
    rw [ek] at e2
    rw [LT_st e2, ofn_s (by omega), pb_v n (k + 1) _ (by omega), sml_s, Int64.add_assoc]
def geF (sh : Nat → Nat → Int32) (sc : Int64) (A : Nat → Int64) (v : Int32) (Q : (Nat → Int64) × Int64 × Int64 × Int64) : Sum (Int32 × Int64 × Int64 × Int64 × Int64 × (Nat → Int64) × (Nat → Int64)) ((Nat → Int64) × (Nat → Int64) × Int64 × Int64 × Int64 × Int64) := (fun S : (Nat → Int64) × Int64 × Int64 => (Sum.inl (v + 1, S.2.1, S.2.2, Q.2.2.1, Q.2.2.2, S.1, Q.1) : Sum (Int32 × Int64 × Int64 × Int64 × Int64 × (Nat → Int64) × (Nat → Int64)) ((Nat → Int64) × (Nat → Int64) × Int64 × Int64 × Int64 × Int64))) (J_X1_passSunday SC0 (lT [(lJ [0, 0, sc, Q.2.1, Q.2.2.1, Q.2.2.2]), A, Q.1]) (SHX sh))
set_option maxHeartbeats 4000000 in
theorem ge_1 {sx sh sco : Nat → Nat → Int32} {tco : Nat → Nat → Int64} {r p1 p2 p3 v : Int32} {y8 : (Nat → Int64) × Int64 × Int64} {sc cs ss si : Int64} {A D : Nat → Int64} (c : ¬ sh 0 0 ≤ v) (q : v = p1) : B_X11_goToTheEnd_11 sx sh sco tco r p1 p2 p3 y8 (v, sc, cs, ss, si, A, D) = geF sh sc A v (J_X1_passWeek SC0 (lT [(lJ [0, 0, sc, cs, ss, si]), A, D]) (SHX sh) v (J_X11_levelBy sx r v) p3) := by
  unfold B_X11_goToTheEnd_11 geF
  try dsimp only [LetF]
  exact (if_neg c).trans (if_pos q)
set_option maxHeartbeats 4000000 in
theorem ge_2 {sx sh sco : Nat → Nat → Int32} {tco : Nat → Nat → Int64} {r p1 p2 p3 v : Int32} {y8 : (Nat → Int64) × Int64 × Int64} {sc cs ss si : Int64} {A D : Nat → Int64} (c : ¬ sh 0 0 ≤ v) (q : ¬ v = p1) : B_X11_goToTheEnd_11 sx sh sco tco r p1 p2 p3 y8 (v, sc, cs, ss, si, A, D) = geF sh sc A v (J_X1_passWeek SC0 (lT [(lJ [0, 0, sc, cs, ss, si]), A, D]) (SHX sh) v (J_X11_levelBy sx r v) 0) := by
  unfold B_X11_goToTheEnd_11 geF
  try dsimp only [LetF]
  exact (if_neg c).trans (if_neg q)
set_option maxHeartbeats 4000000 in
theorem ge_b {sx sh : Nat → Nat → Int32} {r v cm : Int32} {sc cs ss si : Int64} {A D : Nat → Int64} : ∃ Q G : Nat → Int64, geF sh sc A v (J_X1_passWeek SC0 (lT [(lJ [0, 0, sc, cs, ss, si]), A, D]) (SHX sh) v (J_X11_levelBy sx r v) cm) = Sum.inl (v + 1, sc * 625, (cs + SML (wC (SHX sh) v (J_X11_levelBy sx r v) cm A) 35 0) * 625, SML (wS (SHX sh) v (J_X11_levelBy sx r v) cm A) 35 0, SML (wI (SHX sh) v (J_X11_levelBy sx r v) cm A) 35 0, G, Q) ∧ (∀ x, x < 35 → Q x = SML (wD (SHX sh) v (J_X11_levelBy sx r v) A x) 35 0) ∧ (∀ x, x < 15 → G x = SML (fun k => Q k * ((SHX sh) 5 (15 * k + x)).toInt64) 35 0) ∧ ∀ x, 15 ≤ x → x < 35 → G x = 0 := by
  obtain ⟨Q, p1, p2⟩ := pw_v (sco := SC0) (sh := SHX sh) (tco := (lT [(lJ [0, 0, sc, cs, ss, si]), A, D])) (w := v) (lv := (J_X11_levelBy sx r v)) (c := cm)
  obtain ⟨G, g1, g2, g3⟩ := ps_v (sco := SC0) (sh := SHX sh) (tco := lT [(lJ [0, 0, sc, cs + SML (wC (SHX sh) v (J_X11_levelBy sx r v) cm A) 35 0, SML (wS (SHX sh) v (J_X11_levelBy sx r v) cm A) 35 0, SML (wI (SHX sh) v (J_X11_levelBy sx r v) cm A) 35 0]), A, Q])
  refine ⟨Q, G, ?_, p2, g2, g3⟩
  have p1 : J_X1_passWeek SC0 (lT [(lJ [0, 0, sc, cs, ss, si]), A, D]) (SHX sh) v (J_X11_levelBy sx r v) cm = (Q, cs + SML (wC (SHX sh) v (J_X11_levelBy sx r v) cm A) 35 0, SML (wS (SHX sh) v (J_X11_levelBy sx r v) cm A) 35 0, SML (wI (SHX sh) v (J_X11_levelBy sx r v) cm A) 35 0) := p1
  rw [p1]
  exact congrArg (fun S : (Nat → Int64) × Int64 × Int64 => (Sum.inl (v + 1, S.2.1, S.2.2, SML (wS (SHX sh) v (J_X11_levelBy sx r v) cm A) 35 0, SML (wI (SHX sh) v (J_X11_levelBy sx r v) cm A) 35 0, S.1, Q) : Sum (Int32 × Int64 × Int64 × Int64 × Int64 × (Nat → Int64) × (Nat → Int64)) ((Nat → Int64) × (Nat → Int64) × Int64 × Int64 × Int64 × Int64))) g1
set_option maxHeartbeats 4000000 in
theorem ge_w {sx sh sm sco : Nat → Nat → Int32} {tm tco : Nat → Nat → Int64} {r p2 p3 : Int32} {P W : Nat} {y8 : (Nat → Int64) × Int64 × Int64} (K : HOK sh sm) (hL : LVL (sx 1) (sm 4)) (hr : 0 ≤ r.toInt ∧ r.toInt ≤ 2) (h3 : 0 ≤ p3.toInt ∧ p3.toInt ≤ 2) (T : TBL sh) (hW : (sh 0 0).toInt = (W : Int)) (hP : P ≤ W) : ∀ (n v f : Nat) (sc cs ss si : Int64) (A D : Nat → Int64), P ≤ v → v + n = W → n + 1 ≤ f → AVK sh A → ∃ (A2 D2 : Nat → Int64) (ss2 si2 : Int64), LTs default (B_X11_goToTheEnd_11 sx sh sco tco r (Int32.ofNat P) p2 p3 y8) f (Int32.ofNat v, sc, cs, ss, si, A, D) = (A2, D2, SCN n sc, cs * SCN n 1 + SML (fun k => A k * VAL sm tm r W n (if v = P then p3 else 0) (nAL k)) 35 0, ss2, si2)
  | 0, v, f, sc, cs, ss, si, A, D, h0, h1, h2, HA => by
    have wk := K.2.2.1
    have w0 : sh 0 0 = Int32.ofNat v := Int32.toInt_inj.mp (by rw [hW, ofn_t (by omega)]; omega)
    obtain ⟨f2, rfl⟩ : ∃ f2, f = f2 + 1 := ⟨f - 1, by omega⟩
    have e2 : B_X11_goToTheEnd_11 sx sh sco tco r (Int32.ofNat P) p2 p3 y8 (Int32.ofNat v, sc, cs, ss, si, A, D) = Sum.inr (A, D, sc, J_X1_payBonus SC0 (lT [(lJ [0, 0, sc, cs, ss, si]), A, D]) (SHX sh), ss, si) := by
      unfold B_X11_goToTheEnd_11
      try dsimp only [LetF]
      exact if_pos (by rw [w0]; exact Int32.le_iff_toInt_le.mpr (Int.le_refl _))
    have e3 : J_X1_payBonus SC0 (lT [(lJ [0, 0, sc, cs, ss, si]), A, D]) (SHX sh) = cs + SML (fun k => A k * (J_X4_bonusFor (SHX sh) (zALL.getD k 0)).toInt64) 35 0 := pb_v 35 0 cs rfl
    have e4 : SML (fun k => A k * (J_X4_bonusFor (SHX sh) (zALL.getD k 0)).toInt64) 35 0 = SML (fun k => A k * VAL sm tm r W 0 (if v = P then p3 else 0) (nAL k)) 35 0 := sml_c 35 0 (fun k _ hk => by
      show A k * (J_X4_bonusFor (SHX sh) (zALL.getD k 0)).toInt64 = A k * (J_X12_bonus sm tm (Int32.ofNat (nAL k))).toInt64
      rw [nk_v (by omega), bonus_alike (tm := tm) (hok_x K)])
    refine ⟨A, D, ss, si, ?_⟩
    rw [LT_en e2, e3, e4]
    show (A, D, sc, cs + _, ss, si) = (A, D, sc, cs * 1 + _, ss, si)
    rw [Int64.mul_one]
  | n + 1, v, f, sc, cs, ss, si, A, D, h0, h1, h2, HA => by
    have wk := K.2.2.1
    obtain ⟨f2, rfl⟩ : ∃ f2, f = f2 + 1 := ⟨f - 1, by omega⟩
    have vt : (Int32.ofNat v).toInt = (v : Int) := ofn_t (by omega)
    have c : ¬ sh 0 0 ≤ Int32.ofNat v := fun q => by have := f_le rfl vt q; omega
    obtain ⟨cm, hcm, ecm, e2⟩ : ∃ cm : Int32, (0 ≤ cm.toInt ∧ cm.toInt ≤ 2) ∧ cm = (if v = P then p3 else 0) ∧ B_X11_goToTheEnd_11 sx sh sco tco r (Int32.ofNat P) p2 p3 y8 (Int32.ofNat v, sc, cs, ss, si, A, D) = geF sh sc A (Int32.ofNat v) (J_X1_passWeek SC0 (lT [(lJ [0, 0, sc, cs, ss, si]), A, D]) (SHX sh) (Int32.ofNat v) (J_X11_levelBy sx r (Int32.ofNat v)) cm) := by
      by_cases q : v = P
      · exact ⟨p3, h3, by rw [if_pos q], ge_1 c (by rw [q])⟩
      · have nv : ¬ Int32.ofNat v = Int32.ofNat P := fun z => q (by
          have y := congrArg Int32.toInt z
          rw [vt, ofn_t (by omega)] at y
          omega)
        exact ⟨0, by decide, by rw [if_neg q], ge_2 c nv⟩
    obtain ⟨Q, G, b1, b2, b3, b4⟩ := ge_b (sx := sx) (sh := sh) (r := r) (v := Int32.ofNat v) (cm := cm) (sc := sc) (cs := cs) (ss := ss) (si := si) (A := A) (D := D)
    obtain ⟨HG, eq⟩ := ge_st (sx := sx) (sh := SHX sh) (sm := sm) (tm := tm) (r := r) (c := cm) (v := v) (n := n) (W := W) (A := A) (P := Q) (G := G) (cs := cs) (hok_x K) hL hr hcm (tbl_x T) hW h1 HA b2 b3 b4
    obtain ⟨A2, D2, ss2, si2, r1⟩ := ge_w (sco := sco) (tm := tm) (tco := tco) (p2 := p2) (y8 := y8) K hL hr h3 T hW hP n (v + 1) f2 (sc * 625) ((cs + SML (wC (SHX sh) (Int32.ofNat v) (J_X11_levelBy sx r (Int32.ofNat v)) cm A) 35 0) * 625) _ _ G Q (by omega) (by omega) (by omega) HG
    rw [if_neg (by omega)] at r1
    refine ⟨A2, D2, ss2, si2, ?_⟩
    rw [LT_st (e2.trans b1), ofn_s (by omega), ← ecm, ← eq]
    exact r1
theorem ge_v {sx sh sm sco : Nat → Nat → Int32} {tm tco : Nat → Nat → Int64} {r p2 p3 : Int32} {P W : Nat} (K : HOK sh sm) (hL : LVL (sx 1) (sm 4)) (hr : 0 ≤ r.toInt ∧ r.toInt ≤ 2) (h3 : 0 ≤ p3.toInt ∧ p3.toInt ≤ 2) (T : TBL sh) (hW : (sh 0 0).toInt = (W : Int)) (hP : P ≤ W) (hh : 0 ≤ p2.toInt ∧ p2.toInt ≤ 400 ∧ tot p2 ≤ 4) (ht : tot p2 ≤ (sh 0 1).toInt) : (J_X11_goToTheEnd sx sh sco tco r (Int32.ofNat P) p2 p3).2.2.1 = SCN (W - P) 1 ∧ (J_X11_goToTheEnd sx sh sco tco r (Int32.ofNat P) p2 p3).2.2.2.1 = VAL sm tm r W (W - P) p3 p2.toNatClampNeg := by
  obtain ⟨k1, k2⟩ := kd_v hh
  have z : ∀ k, k < 35 → (vp_updL (J_J7_fill_d0a16_35 (fun _ _ => 0) (fun _ => (tco 1)) 0) ((J_X3_kind p2)).toNatClampNeg 1) k = if k = (J_X3_kind p2).toNatClampNeg then 1 else 0 := fun k hk => by
    by_cases q : k = (J_X3_kind p2).toNatClampNeg
    · rw [q, updL_s, if_pos rfl]
    · rw [updL_n q, if_neg q]; exact if_pos hk
  have HA : AVK sh (vp_updL (J_J7_fill_d0a16_35 (fun _ _ => 0) (fun _ => (tco 1)) 0) ((J_X3_kind p2)).toNatClampNeg 1) := fun k hk q => by
    by_cases e : k = (J_X3_kind p2).toNatClampNeg
    · rw [e, k1]; exact ht
    · rw [z k hk, if_neg e] at q; exact absurd rfl q
  obtain ⟨A2, D2, ss2, si2, r1⟩ := ge_w (sx := sx) (sco := sco) (tm := tm) (tco := tco) (p2 := p2) (y8 := (vp_updL (J_J7_fill_d0a16_35 (fun _ _ => 0) (fun _ => (tco 1)) 0) ((J_X3_kind p2)).toNatClampNeg 1, (1 : Int64), (0 : Int64))) K hL hr h3 T hW hP (W - P) P 6 1 0 (tco 0 4) (tco 0 5) (vp_updL (J_J7_fill_d0a16_35 (fun _ _ => 0) (fun _ => (tco 1)) 0) ((J_X3_kind p2)).toNatClampNeg 1) (tco 2) (Nat.le_refl P) (by omega) (by have := K.2.2.1; omega) HA
  have e : J_X11_goToTheEnd sx sh sco tco r (Int32.ofNat P) p2 p3 = _ := r1
  rw [e]
  refine ⟨rfl, ?_⟩
  show 0 * SCN (W - P) 1 + SML (fun k => (vp_updL (J_J7_fill_d0a16_35 (fun _ _ => 0) (fun _ => (tco 1)) 0) ((J_X3_kind p2)).toNatClampNeg 1) k * VAL sm tm r W (W - P) (if P = P then p3 else 0) (nAL k)) 35 0 = _
  rw [Int64.zero_mul, Int64.zero_add, if_pos rfl, sml_1 (k := (J_X3_kind p2).toNatClampNeg) 35 0 (Nat.zero_le _) (by omega) (fun j _ hj hne => by rw [z j (by omega), if_neg hne, Int64.zero_mul])]
  rw [z _ k2, if_pos rfl, Int64.one_mul]
  have e5 : Int32.ofNat (nAL (J_X3_kind p2).toNatClampNeg) = p2 := (nk_v k2).trans k1
  have e6 := congrArg Int32.toNatClampNeg e5
  rw [ofn_c (k := nAL (J_X3_kind p2).toNatClampNeg) (Nat.lt_of_lt_of_le (nAL_lt ⟨_, k2⟩) (by decide))] at e6
  rw [e6]
