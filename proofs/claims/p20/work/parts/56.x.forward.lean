/-! a WEEK by a rule: both sides -/
def TBL (sh : Nat → Nat → Int32) : Prop := ∀ k, k < 35 → ∀ b, b < 15 → sh 5 (15 * k + b) = SMI (cK sh k (15 * k + b)) 35 0
theorem rt_dec : ∀ n : Fin 5, J_X0_letGo (100 * Int32.ofNat n.val) = 0 ∧ J_X0_taken (100 * Int32.ofNat n.val) = Int32.ofNat n.val ∧ J_X0_taught (100 * Int32.ofNat n.val) = 0 ∧ J_X0_ordered (100 * Int32.ofNat n.val) = 0 ∧ 0 ≤ (100 * Int32.ofNat n.val : Int32).toInt := by decide +kernel
theorem rt {t : Int32} (h : 0 ≤ t.toInt ∧ t.toInt ≤ 4) : J_X0_letGo (100 * t) = 0 ∧ J_X0_taken (100 * t) = t ∧ J_X0_taught (100 * t) = 0 ∧ J_X0_ordered (100 * t) = 0 ∧ 0 ≤ (100 * t : Int32).toInt := by
  obtain ⟨n, hn, rfl⟩ := nat_of (N := 4) h
  exact rt_dec ⟨n, by omega⟩
theorem less0_dec : ∀ n : Fin 401, J_X3_lessYoungestFirst (Int32.ofNat n.val) 0 = Int32.ofNat n.val := by decide +kernel
theorem less0 {h : Int32} (hh : 0 ≤ h.toInt ∧ h.toInt ≤ 400) : J_X3_lessYoungestFirst h 0 = h := by
  obtain ⟨n, hn, rfl⟩ := nat_of (N := 400) hh
  exact less0_dec ⟨n, by omega⟩
theorem tbl_le {sh : Nat → Nat → Int32} {w h l : Int32} : J_X4_takenByLevel sh w h l ≤ J_X4_mostTaken sh w h := by
  unfold J_X4_takenByLevel
  dsimp only
  generalize J_X4_mostTaken sh w h = y
  generalize (if 0 < (l - J_X3_total h) then (l - J_X3_total h) else (0 : Int32)) = x
  by_cases q : x < y
  · rw [if_pos q]; exact Int32.le_iff_toInt_le.mpr (by have := Int32.lt_iff_toInt_lt.mp q; omega)
  · rw [if_neg q]; exact Int32.le_iff_toInt_le.mpr (Int.le_refl _)
theorem alw_t {sh : Nat → Nat → Int32} {w h t : Int32} (hh : 0 ≤ h.toInt ∧ h.toInt ≤ 400 ∧ tot h ≤ 4) (ht : 0 ≤ t.toInt ∧ t.toInt ≤ 4) (hm : t ≤ J_X4_mostTaken sh w h) : J_X4_allows sh w h (100 * t) = 1 := by
  obtain ⟨g1, g2, g3, g4, g5⟩ := rt ht
  have T0 := tot_0 (x := h) hh.1
  have a : (0 : Int32) ≤ J_X4_mostLetGo sh h := by
    unfold J_X4_mostLetGo
    by_cases q : sh 0 8 = -9
    · rw [if_pos q]; decide
    · rw [if_neg q]; exact Int32.le_iff_toInt_le.mpr (by rw [show (J_X3_total h).toInt = tot h from tot_t hh.1]; exact T0)
  have b : ¬ J_X4_mostTaught sh (h + (100 : Int32) * t) < 0 := by
    unfold J_X4_mostTaught
    by_cases q1 : sh 0 9 = -9
    · rw [if_pos q1]; decide
    · rw [if_neg q1]
      by_cases q2 : J_X3_ofAge (h + (100 : Int32) * t) 0 ≤ 0
      · rw [if_pos q2]; decide
      · rw [if_neg q2]
        by_cases q3 : J_X3_ofAge (h + (100 : Int32) * t) 2 ≤ 0
        · rw [if_pos q3]; decide
        · rw [if_neg q3]; decide
  have d : ¬ J_X4_mostOrdered sh w < 0 := by
    unfold J_X4_mostOrdered J_X4_mostComing
    by_cases q1 : w = sh 0 0 - 1
    · rw [if_pos q1]; decide
    · rw [if_neg q1]
      by_cases q2 : sh 0 10 = -9
      · rw [if_pos q2]; decide
      · rw [if_neg q2]; decide
  dsimp only [J_X4_allows]
  rw [g1, g2, g3, g4, less0 ⟨hh.1, hh.2.1⟩, if_pos a, if_pos hm, if_neg b, if_neg d]
theorem wc_act {sh : Nat → Nat → Int32} {w d c a b : Int32} (e1 : J_X0_letGo a = J_X0_letGo b) (e2 : J_X0_taught a = J_X0_taught b) : J_X4_weekCost sh w d c a = J_X4_weekCost sh w d c b := by
  unfold J_X4_weekCost
  rw [e1, e2]
/-- by a RULE: who does the WEEK, what it costs, what is SHORT -/
theorem rule_v {sx sh sm : Nat → Nat → Int32} {tm : Nat → Nat → Int64} {r w c h : Int32} (K : HOK sh sm) (hL : LVL (sx 1) (sm 4)) (hr : 0 ≤ r.toInt ∧ r.toInt ≤ 2) (hw : 0 ≤ w.toInt ∧ w.toInt < (sh 0 0).toInt) (hc : 0 ≤ c.toInt ∧ c.toInt ≤ 2) (hh : 0 ≤ h.toInt ∧ h.toInt ≤ 400 ∧ tot h ≤ 4) (ht : tot h ≤ (sh 0 1).toInt) :
    J_X12_after sm tm w h (J_X12_ruleAct sm tm r w h) = h + 100 * J_X4_takenByLevel sh w h (J_X11_levelBy sx r w)
    ∧ ((0 ≤ (h + 100 * J_X4_takenByLevel sh w h (J_X11_levelBy sx r w)).toInt ∧ (h + 100 * J_X4_takenByLevel sh w h (J_X11_levelBy sx r w)).toInt ≤ 400 ∧ tot (h + 100 * J_X4_takenByLevel sh w h (J_X11_levelBy sx r w)) ≤ 4) ∧ tot (h + 100 * J_X4_takenByLevel sh w h (J_X11_levelBy sx r w)) ≤ (sh 0 1).toInt)
    ∧ J_X4_weekCost sh w (h + 100 * J_X4_takenByLevel sh w h (J_X11_levelBy sx r w)) c 0 = J_X12_costOf sm tm w (h + 100 * J_X4_takenByLevel sh w h (J_X11_levelBy sx r w)) c (J_X12_ruleAct sm tm r w h)
    ∧ ((J_X4_lack sh w (h + 100 * J_X4_takenByLevel sh w h (J_X11_levelBy sx r w)) c 0).toInt = -(J_X12_over sm tm w (h + 100 * J_X4_takenByLevel sh w h (J_X11_levelBy sx r w)) c (J_X12_ruleAct sm tm r w h)).toInt ∧ -999 ≤ (J_X4_lack sh w (h + 100 * J_X4_takenByLevel sh w h (J_X11_levelBy sx r w)) c 0).toInt ∧ (J_X4_lack sh w (h + 100 * J_X4_takenByLevel sh w h (J_X11_levelBy sx r w)) c 0).toInt ≤ 999) := by
  obtain ⟨e1, t0, t4⟩ := ract_alike (tm := tm) K hL hr ⟨hw.1, by have := K.2.2.1; omega⟩ hh ht
  have tm1 : J_X4_takenByLevel sh w h (J_X11_levelBy sx r w) ≤ J_X4_mostTaken sh w h := tbl_le
  rw [e1]
  generalize J_X4_takenByLevel sh w h (J_X11_levelBy sx r w) = t at t0 t4 tm1 ⊢
  obtain ⟨g1, g2, g3, g4, g5⟩ := rt ⟨t0, t4⟩
  have al := alw_t (sh := sh) (w := w) hh ⟨t0, t4⟩ tm1
  have dn : J_X0_done h (100 * t) = h + 100 * t := by
    unfold J_X0_done
    rw [g1, g2, g3, less0 ⟨hh.1, hh.2.1⟩, Int32.mul_zero, Int32.sub_zero]
  rcases al_full (sm := sm) (tm := tm) (w := w) (h := h) (c := c) (a := 100 * t) K hw hh hc g5 with ⟨x1, _⟩ | ⟨x1, x2, x3, x4, x5, x6, x7⟩
  · rw [al] at x1; exact absurd x1 (by decide)
  · rw [dn] at x2 x4 x5 x6
    rw [g3] at x6
    rw [wc_act (b := 0) (by rw [g1]; decide) (by rw [g3]; decide)] at x5
    exact ⟨x2, x4, x5, x6⟩
/-! kinds -/
theorem ak_dec : ∀ k : Fin 35, (0 ≤ (zALL.getD k.val 0).toInt ∧ (zALL.getD k.val 0).toInt ≤ 400 ∧ tot (zALL.getD k.val 0) ≤ 4) ∧ tot (zALL.getD k.val 0) = ((tK k.val : Nat) : Int) ∧ zALL.getD k.val 0 = Int32.ofNat (nAL k.val) ∧ (J_X3_kind (zALL.getD k.val 0)).toNatClampNeg = k.val := by decide +kernel
theorem ak {k : Nat} (hk : k < 35) : (0 ≤ (zALL.getD k 0).toInt ∧ (zALL.getD k 0).toInt ≤ 400 ∧ tot (zALL.getD k 0) ≤ 4) ∧ tot (zALL.getD k 0) = ((tK k : Nat) : Int) ∧ zALL.getD k 0 = Int32.ofNat (nAL k) ∧ (J_X3_kind (zALL.getD k 0)).toNatClampNeg = k := ak_dec ⟨k, hk⟩
theorem al5_dec : ∀ b : Fin 15, nAL b.val < 50 ∧ tK b.val = nAL b.val / 10 + nAL b.val % 10 := by decide +kernel
theorem al5 {b : Nat} (hb : b < 15) : nAL b < 50 ∧ tK b = nAL b / 10 + nAL b % 10 := al5_dec ⟨b, hb⟩
theorem t50_dec : ∀ x : Fin 50, (J_X12_all (Int32.ofNat x.val)).toInt = ((x.val / 10 + x.val % 10 : Nat) : Int) ∧ ¬ J_X12_in ((Int32.ofNat x.val).toInt64) 0 999 = 0 := by decide +kernel
theorem ih50 {sh sm : Nat → Nat → Int32} {tm : Nat → Nat → Int64} {x : Nat} (K : HOK sh sm) (hx : x < 50) : J_X12_isHands sm tm (Int32.ofNat x) = 0 ↔ (sh 0 1).toInt < ((x / 10 + x % 10 : Nat) : Int) := by
  obtain ⟨a1, a2⟩ := t50_dec ⟨x, hx⟩
  have a1 : (J_X12_all (Int32.ofNat x)).toInt = ((x / 10 + x % 10 : Nat) : Int) := a1
  have e1 : (sm 2) (1 : Int32).toNatClampNeg = sh 0 1 := by rw [n1_]; exact K.1.2.1
  unfold J_X12_isHands
  rw [if_neg a2, e1]
  by_cases q : sh 0 1 < J_X12_all (Int32.ofNat x)
  · have := f_lt rfl a1 q
    rw [if_pos q]; exact ⟨fun _ => this, fun _ => rfl⟩
  · have := f_nlt rfl a1 q
    rw [if_neg q]; exact ⟨fun z => absurd z (by decide), fun z => by omega⟩
/-- the table, from hands -/
theorem sd_v {sh sm : Nat → Nat → Int32} {tm : Nat → Nat → Int64} {h : Int32} {b : Nat} (K : HOK sh sm) (T : TBL sh) (hh : 0 ≤ h.toInt ∧ h.toInt ≤ 400 ∧ tot h ≤ 4) (hb : b < 15) : sh 5 (15 * (J_X3_kind h).toNatClampNeg + b) = J_X12_sundayOf sm tm h (zALL.getD b 0) := by
  obtain ⟨e1, e2⟩ := kd_v hh
  rw [T _ e2 _ hb, ← settle_v e2 hb, sun_eq (tm := tm) K e2 hb, e1]
theorem sd_n {sh sm : Nat → Nat → Int32} {k b : Nat} (K : HOK sh sm) (T : TBL sh) (hk : k < 35) (hb : b < 15) : ((sh 5 (15 * k + b)).toInt64).toInt = ((tbN sh k b : Nat) : Int) := by
  rw [Int32.toInt_toInt64, T _ hk _ hb, tb_v K hk hb]
theorem kd_t {h : Int32} (hh : 0 ≤ h.toInt ∧ h.toInt ≤ 400 ∧ tot h ≤ 4) : (J_X3_kind h).toNatClampNeg < 35 ∧ ((tK (J_X3_kind h).toNatClampNeg : Nat) : Int) = tot h := by
  obtain ⟨e1, e2⟩ := kd_v hh
  have e3 := (ak e2).2.1
  rw [e1] at e3
  exact ⟨e2, e3.symm⟩
/-! forward: likely hands, both sides -/
def AHK (sh : Nat → Nat → Int32) (A l : Nat → Int64) (n : Nat) : Prop := (∀ b, b < 15 → A b = l (nAL b)) ∧ (∀ k, 15 ≤ k → k < 35 → A k = 0) ∧ (∀ x, x < 50 → (sh 0 1).toInt < ((x / 10 + x % 10 : Nat) : Int) → l x = 0) ∧ ∃ N : Nat → Nat, (∀ b, b < 15 → (A b).toInt = ((N b : Nat) : Int)) ∧ NSM N 15 0 ≤ 625 ^ n
theorem l0 {A : Int64} (h : A.toInt = ((0 : Nat) : Int)) : A = 0 := Int64.toInt_inj.mp (by rw [h]; decide)
theorem p625 {n : Nat} (h : n ≤ 5) : 625 ^ n ≤ 95367431640625 := Nat.le_trans (Nat.pow_le_pow_right (by decide) h) (by decide)
theorem sml_35 {f : Nat → Int64} (h : ∀ k, 15 ≤ k → k < 35 → f k = 0) : SML f 35 0 = SML f 15 0 := by
  rw [show (35 : Nat) = 15 + 20 from rfl, sml_split (b := 20) 15 0, sml_z 20 (0 + 15) (fun j h1 h2 => h j (by omega) (by omega)), Int64.add_zero]
theorem lg_z : lg_cmp (0 : Int64) 0 ≤ 0 := by decide
theorem lg_p {A : Int64} {N : Nat} (h : A.toInt = ((N : Nat) : Int)) (hN : ¬ N = 0) : ¬ lg_cmp A 0 ≤ 0 := fun q => by
  have := Int64.le_iff_toInt_le.mp ((lg_cmp_le A 0).mp q)
  rw [h, show (0 : Int64).toInt = 0 from by decide] at this
  omega
theorem ahk_0 {sh : Nat → Nat → Int32} {A l : Nat → Int64} (hA : ∀ k, k < 35 → A k = if k = 0 then 1 else 0) (hl : ∀ x, x < 50 → l x = if x = 0 then 1 else 0) (hk : 0 ≤ (sh 0 1).toInt) : AHK sh A l 0 := by
  have d : ∀ b : Fin 15, (nAL b.val = 0 ↔ b.val = 0) := by decide
  refine ⟨fun b hb => ?_, fun k h1 h2 => by rw [hA k h2, if_neg (by omega)], fun x hx h => ?_, fun b => if b = 0 then 1 else 0, fun b hb => ?_, by decide⟩
  · rw [hA b (by omega), hl _ (al5 hb).1]
    by_cases q : b = 0
    · rw [if_pos q, if_pos ((d ⟨b, hb⟩).mpr q)]
    · rw [if_neg q, if_neg (fun z => q ((d ⟨b, hb⟩).mp z))]
  · rw [hl x hx]
    exact if_neg (fun z => by subst z; omega)
  · rw [hA b (by omega)]
    by_cases q : b = 0
    · rw [if_pos q]; show (1 : Int64).toInt = (((if b = 0 then 1 else 0 : Nat)) : Int); rw [if_pos q]; decide
    · rw [if_neg q]; show (0 : Int64).toInt = (((if b = 0 then 1 else 0 : Nat)) : Int); rw [if_neg q]; decide
theorem ahk_step {sx sh sm : Nat → Nat → Int32} {tm : Nat → Nat → Int64} {r : Int32} {v n : Nat} {A G l l2 : Nat → Int64} (K : HOK sh sm) (hL : LVL (sx 1) (sm 4)) (hr : 0 ≤ r.toInt ∧ r.toInt ≤ 2) (T : TBL sh) (hv : (v : Int) < (sh 0 0).toInt) (hn : n + 1 ≤ 5) (H : AHK sh A l n) (hG : ∀ x, x < 15 → G x = SML (fun k => A k * (sh 5 (15 * kx sh (Int32.ofNat v) (J_X11_levelBy sx r (Int32.ofNat v)) k + x)).toInt64) 35 0) (hG2 : ∀ x, 15 ≤ x → x < 35 → G x = 0) (hl : ∀ x, x < 50 → l2 x = SML (lkH sm tm r (Int32.ofNat v) l x) 50 0) : AHK sh G l2 (n + 1) := by
  obtain ⟨h1, h2, h3, N, h4, h5⟩ := H
  have wk := K.2.2.1
  have hk4 := K.2.2.2.1
  have vt : (Int32.ofNat v).toInt = (v : Int) := ofn_t (by omega)
  have n0 : ∀ k, k < 15 → N k = 0 → A k = 0 := fun k hk q => l0 (by rw [h4 k hk, q])
  have ht : ∀ k, k < 15 → ¬ N k = 0 → tot (zALL.getD k 0) ≤ (sh 0 1).toInt := fun k hk q => by
    obtain ⟨a1, a2⟩ := al5 hk
    have a3 := (ak (k := k) (by omega)).2.1
    by_cases z : (sh 0 1).toInt < ((nAL k / 10 + nAL k % 10 : Nat) : Int)
    · have e := h4 k hk
      rw [h1 k hk, h3 _ a1 z, show (0 : Int64).toInt = 0 from by decide] at e
      omega
    · rw [a3, a2]; omega
  have kr : ∀ k, k < 15 → ¬ N k = 0 → J_X12_after sm tm (Int32.ofNat v) (zALL.getD k 0) (J_X12_ruleAct sm tm r (Int32.ofNat v) (zALL.getD k 0)) = kp sh (Int32.ofNat v) (J_X11_levelBy sx r (Int32.ofNat v)) k ∧ (0 ≤ (kp sh (Int32.ofNat v) (J_X11_levelBy sx r (Int32.ofNat v)) k).toInt ∧ (kp sh (Int32.ofNat v) (J_X11_levelBy sx r (Int32.ofNat v)) k).toInt ≤ 400 ∧ tot (kp sh (Int32.ofNat v) (J_X11_levelBy sx r (Int32.ofNat v)) k) ≤ 4) ∧ tot (kp sh (Int32.ofNat v) (J_X11_levelBy sx r (Int32.ofNat v)) k) ≤ (sh 0 1).toInt := fun k hk q => by
    obtain ⟨q1, q2, _⟩ := rule_v (sx := sx) (tm := tm) (r := r) (w := Int32.ofNat v) (c := 0) (h := zALL.getD k 0) K hL hr ⟨by omega, by omega⟩ (by decide) (ak (k := k) (by omega)).1 (ht k hk q)
    exact ⟨q1, q2⟩
  have tb : ∀ k b, k < 15 → b < 15 → ¬ N k = 0 → ((sh 5 (15 * kx sh (Int32.ofNat v) (J_X11_levelBy sx r (Int32.ofNat v)) k + b)).toInt64).toInt = ((tbN sh (kx sh (Int32.ofNat v) (J_X11_levelBy sx r (Int32.ofNat v)) k) b : Nat) : Int) := fun k b hk hb q => sd_n K T (kd_t (kr k hk q).2.1).1 hb
  have sumN : NSM (fun b => NSM (fun k => N k * tbN sh (kx sh (Int32.ofNat v) (J_X11_levelBy sx r (Int32.ofNat v)) k) b) 15 0) 15 0 ≤ 625 ^ (n + 1) := by
    rw [nsm_fub]
    have e : NSM (fun k => NSM (fun b => N k * tbN sh (kx sh (Int32.ofNat v) (J_X11_levelBy sx r (Int32.ofNat v)) k) b) 15 0) 15 0 = NSM (fun k => N k * 625) 15 0 := nsm_c 15 0 (fun k _ hk => by
      by_cases q : N k = 0
      · rw [q, Nat.zero_mul]; exact nsm_z 15 0 (fun b _ _ => Nat.zero_mul _)
      · rw [nsm_mulL]; exact congrArg (fun z => N k * z) (tbN_row (sh := sh) (k := kx sh (Int32.ofNat v) (J_X11_levelBy sx r (Int32.ofNat v)) k) K (kd_t (kr k (by omega) q).2.1).1))
    rw [e, nsm_mul, Nat.pow_succ]
    exact Nat.mul_le_mul h5 (Nat.le_refl _)
  have lkz : ∀ x h, l h = 0 → lkH sm tm r (Int32.ofNat v) l x h = 0 := fun x h q => if_pos (by rw [q]; exact lg_z)
  refine ⟨fun b hb => ?_, hG2, fun x hx hz => ?_, fun b => NSM (fun k => N k * tbN sh (kx sh (Int32.ofNat v) (J_X11_levelBy sx r (Int32.ofNat v)) k) b) 15 0, fun b hb => ?_, sumN⟩
  · obtain ⟨a1, a2⟩ := al5 hb
    rw [hG b hb, hl _ a1, sml_35 (fun k q1 q2 => by rw [h2 k q1 q2, Int64.zero_mul]), sml_15 (fun x q1 q2 => lkz _ _ (h3 x q1 (by omega)))]
    refine sml_c 15 0 (fun k _ hk => ?_)
    have hk : k < 15 := by omega
    by_cases q : N k = 0
    · rw [n0 k hk q, Int64.zero_mul, lkz _ _ (by rw [← h1 k hk]; exact n0 k hk q)]
    · obtain ⟨q1, q2, q3⟩ := kr k hk q
      have e0 : zALL.getD k 0 = Int32.ofNat (nAL k) := (ak (k := k) (by omega)).2.2.1
      have e1 : zALL.getD b 0 = Int32.ofNat (nAL b) := (ak (k := b) (by omega)).2.2.1
      have np : ¬ lg_cmp (l (nAL k)) 0 ≤ 0 := by rw [← h1 k hk]; exact lg_p (h4 k hk) q
      have e2 : lkH sm tm r (Int32.ofNat v) l (nAL b) (nAL k) = lkT sm tm (J_X12_after sm tm (Int32.ofNat v) (Int32.ofNat (nAL k)) (J_X12_ruleAct sm tm r (Int32.ofNat v) (Int32.ofNat (nAL k)))) (l (nAL k)) (nAL b) := if_neg np
      rw [e2, ← e0, q1, ← h1 k hk]
      unfold lkT
      by_cases c : J_X12_isHands sm tm (Int32.ofNat (nAL b)) = 0
      · have c2 := (ih50 K a1).mp c
        obtain ⟨k1, k2⟩ : kx sh (Int32.ofNat v) (J_X11_levelBy sx r (Int32.ofNat v)) k < 35 ∧ ((tK (kx sh (Int32.ofNat v) (J_X11_levelBy sx r (Int32.ofNat v)) k) : Nat) : Int) = tot (kp sh (Int32.ofNat v) (J_X11_levelBy sx r (Int32.ofNat v)) k) := kd_t q2
        have z := tb k b hk hb q
        rw [show tbN sh (kx sh (Int32.ofNat v) (J_X11_levelBy sx r (Int32.ofNat v)) k) b = 0 from tbN_0 k1 (by rw [a2]; omega)] at z
        rw [if_pos c, l0 z, Int64.mul_zero]
      · rw [if_neg c, ← e1, ← sd_v (tm := tm) K T q2 hb]
        rfl
  · rw [hl x hx]
    refine sml_z 50 0 (fun h _ _ => ?_)
    have c := (ih50 (tm := tm) K hx).mpr hz
    unfold lkH
    by_cases q : lg_cmp (l h) 0 ≤ 0
    · exact if_pos q
    · rw [if_neg q]; exact if_pos c
  · rw [hG b hb, sml_35 (fun k q1 q2 => by rw [h2 k q1 q2, Int64.zero_mul])]
    have lb : NSM (fun k => N k * tbN sh (kx sh (Int32.ofNat v) (J_X11_levelBy sx r (Int32.ofNat v)) k) b) 15 0 ≤ 95367431640625 := Nat.le_trans (nsm_1le (f := fun b => NSM (fun k => N k * tbN sh (kx sh (Int32.ofNat v) (J_X11_levelBy sx r (Int32.ofNat v)) k) b) 15 0) (k := b) 15 0 (Nat.zero_le _) (by omega)) (Nat.le_trans sumN (p625 hn))
    refine sml_n 15 0 (fun k _ hk => ?_) (by omega)
    have hk : k < 15 := by omega
    by_cases q : N k = 0
    · rw [n0 k hk q, q, Int64.zero_mul, Nat.zero_mul]; decide
    · have l2 := nsm_1le (f := fun k => N k * tbN sh (kx sh (Int32.ofNat v) (J_X11_levelBy sx r (Int32.ofNat v)) k) b) (k := k) 15 0 (Nat.zero_le _) (by omega)
      exact l_mulN (h4 k hk) (tb k b hk hb q) (Nat.le_trans l2 (Nat.le_trans lb (by decide)))
